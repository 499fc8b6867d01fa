set_option maxHeartbeats 4000000 in
set_option maxRecDepth 100000 in
theorem br_44 {p : Program} {e : Env} {s : State} {m : MethodId} {below : List Frame} {meth : Method} {c : Code} (l : Launch) {b : Nat} {xs : Nat → Int32} (C0 : lw_At p s m meth c b 6 xs) (D : va_G) (ty : Nat → ClassId) (hK : kK D ty s) (x0 m0 : Nat) (qx qm : Nat → Nat) {H : Heap} {locs : List Loc} {ls : Array Slot} (hP : va_P D vwCl (lawW ty x0 m0 qx qm) H) (hD : va_D (fun q : Nat => s.heap.size ≤ q) (lawW ty x0 m0 qx qm)) (hS : va_S (fun q : Nat => s.heap.size ≤ q) s.heap H locs) (hl : lv_has ls 4 [(3, .int 0), (2, .ref m0), (1, .ref x0), (0, .ref b)]) :
    W p l e room_1 s m #[Value.ref b] below meth c H locs 200 10000 (lw_Z below #[Value.ref b] s) (F0 m 1530 ls []) := by
  obtain ⟨hx, hb, hr, hml, hown0, hts, hX, hbl, hlocks, hgv⟩ := id C0
  have hown : s.vm.findClass RL = some m.cls := hown0
  have hB : ∀ w ∈ bW, w.before #[Value.ref b] s = true := fun w h => hts w (bW_lw h)
  have hA : ∀ q : Nat, s.heap.size ≤ q → (fun q : Nat => s.heap.size ≤ q) q := fun _ h => h
  have hbA : ¬ (fun q : Nat => s.heap.size ≤ q) b := Nat.not_le.mpr hbl
  obtain ⟨s1, h1⟩ : ∃ y, xs 1 = y := ⟨_, rfl⟩
  obtain ⟨s2, h2⟩ : ∃ y, xs 2 = y := ⟨_, rfl⟩
  obtain ⟨s3, h3⟩ : ∃ y, xs 3 = y := ⟨_, rfl⟩
  obtain ⟨s4, h4⟩ : ∃ y, xs 4 = y := ⟨_, rfl⟩
  obtain ⟨s5, h5⟩ : ∃ y, xs 5 = y := ⟨_, rfl⟩
  refine lv_aload_n hx hb dL_law_1530 rfl (lv_at hl 2 rfl) ?_
  refine lv_aload_n hx hb dL_law_1531 rfl (lv_at hl 3 rfl) ?_
  refine lv_iload_n hx hb dL_law_1532 rfl (lv_at hl 0 rfl) ?_
  refine lv_iconst (v := 1) hx hb dL_law_1533 (by decide) ?_
  refine lv_iadd hx hb dL_law_1534 ?_
  refine tp_i (v := 1) (by decide) ?_
  refine va_sld hx hb hX hbl hbA hS (by unfold vp_in; decide) dL_law_1535 ?_
  refine tp_i (v := s1) h1 ?_
  refine lv_aload_n hx hb dL_law_1536 rfl (lv_at hl 3 rfl) ?_
  refine lv_iload_n hx hb dL_law_1537 rfl (lv_at hl 0 rfl) ?_
  refine lv_iconst (v := 2) hx hb dL_law_1538 (by decide) ?_
  refine lv_iadd hx hb dL_law_1539 ?_
  refine tp_i (v := 2) (by decide) ?_
  refine va_sld hx hb hX hbl hbA hS (by unfold vp_in; decide) dL_law_1540 ?_
  refine tp_i (v := s2) h2 ?_
  refine kc_i (va_runV (As := [.int s1, .int s2]) (rest := []) ⟨hx, hb, hml, hown, hB⟩ (c120_X11_spare l D ty H.size x0 (qx 19) (qx 32) (qx 119) (qx 118) (qx 24) (qx 120) (qx 117) (qx 37) s1 s2 (.ref (qx 0)) (.int 0) (.ref (qx 1)) (.ref (qx 35)) (.ref (qx 36)) (.ref (qx 42)) (.ref (qx 44)) (.ref (qx 45)) (.ref (qx 50)) (.int (-1)) (.int (-1)) (.int (-1)) (.int (-1)) (.int 0) (qx 33) (qx 34) (.ref (qx 38)) (.ref (qx 39)) (.ref (qx 40)) (.ref (qx 41)) (.int 0) (.int 0) (.int (-1)) (.int 0) (.int 0) (.ref (qx 20)) (.ref (qx 21)) (.ref (qx 22)) (.ref (qx 23)) (.int 0) (.int 0) (.ref (qx 28)) (.ref (qx 31)) (.ref (qx 116)) (.int 0) (.ref (qx 25)) (.ref (qx 26)) (.ref (qx 27)) (upd (kf 1000000) 1 0) (kf 0)) (cwV 2 hB (bw_V mw_916 mw_917 mw_918 mw_216 mw_915) rfl rfl rfl (by decide +kernel) ⟨Nat.le_of_ble_eq_true rfl, Nat.le_of_ble_eq_true rfl⟩) (kp_V hK hP hD [0, 20, 33, 120, 119, 25, 121, 118, 38] (by decide) rfl 0 rfl rfl rfl) rfl rfl hl.1 rfl (lv_room (Nat.le_of_ble_eq_true rfl)) dL_law_1541 ⟨Nat.le_of_ble_eq_true rfl, Nat.le_of_ble_eq_true rfl⟩) hP hD hS hA [0, 20, 33, 120, 119, 25, 121, 118, 38] [122, 123, 124, 125, 126, 127, 128, 129, 130, 131, 132, 133, 134, 135, 136, 137, 138, 139, 140, 141, 142, 143, 144, 145, 146] (wr := [(m0, .inr (12, [.int 0, .ref (qm 23), .ref (qm 0), .ref (qm 1), .ref (qm 2), .int 0, .ref (qm 3), .int 0, .int 0, .int 0, .int 0, .int 0, .int 0, .int (-1), .ref (qm 4), .ref (qm 5), .ref (qm 6), .ref (qm 7), .ref (qm 8), .ref (qm 9), .ref (qm 10), .ref (qm 11), .ref (qm 12), .int 0, .ref (qm 13), .int 0, .ref (qm 14), .int 0, .ref (qm 15), .ref (qm 16), .ref (qm 17), .int 0, .ref (qm 18), .int 0, .ref (qm 19), .ref (qm 20), .ref (qm 21), .ref (qm 22)])), ((qm 0), .inl (ty 1, 912, .inl (kf 0))), ((qm 1), .inl (ty 3, 3, .inl (kf 0))), ((qm 2), .inl (ty 0, 800, .inl (kf 0))), ((qm 3), .inl (ty 1, 5, .inl (kf 0))), ((qm 4), .inl (ty 1, 304, .inl (kf 0))), ((qm 5), .inl (ty 3, 28, .inl (kf 0))), ((qm 6), .inl (ty 1, 28, .inl (kf 0))), ((qm 7), .inl (ty 1, 256, .inl (kf 0))), ((qm 8), .inl (ty 1, 256, .inl (kf 0))), ((qm 9), .inl (ty 3, 16, .inl (kf 0))), ((qm 10), .inl (ty 1, 28, .inl (kf 0))), ((qm 11), .inl (ty 1, 28, .inl (kf 0))), ((qm 12), .inl (ty 1, 44, .inl (kf 0))), ((qm 13), .inl (ty 1, 2, .inl (kf 0))), ((qm 14), .inl (ty 1, 9, .inl (kf 0))), ((qm 15), .inl (ty 1, 512, .inl (kf 0))), ((qm 16), .inl (ty 1, 512, .inl (kf 0))), ((qm 17), .inl (ty 1, 16, .inl (kf 0))), ((qm 18), .inl (ty 1, 2, .inl (kf 0))), ((qm 19), .inl (ty 1, 4, .inl (upd (upd (upd (upd (kf 0) 0 (-1)) 1 (-1)) 2 (-1)) 3 (-1)))), ((qm 20), .inl (ty 1, 4, .inl (kf 0))), ((qm 21), .inl (ty 2, 240, .inr (.inl (kj 0)))), ((qm 22), .inl (ty 2, 60, .inr (.inl (kj 0)))), ((qm 23), .inl (ty 1, 304, .inl (upd (upd (kf 0) 1 2) 4 (-1))))]) rfl rfl (by decide) (by decide) (fun r u H locs w1 hP hD hS => ?_)
  rcases w1 with ⟨c2, rfl, rfl⟩ | ⟨c3, rfl, rfl⟩
  · have hP : va_P D vwCl [(m0, .inr (12, [.int 0, .ref (qm 23), .ref (qm 0), .ref (qm 1), .ref (qm 2), .int 0, .ref (qm 3), .int 0, .int 0, .int 0, .int 0, .int 0, .int 0, .int (-1), .ref (qm 4), .ref (qm 5), .ref (qm 6), .ref (qm 7), .ref (qm 8), .ref (qm 9), .ref (qm 10), .ref (qm 11), .ref (qm 12), .int 0, .ref (qm 13), .int 0, .ref (qm 14), .int 0, .ref (qm 15), .ref (qm 16), .ref (qm 17), .int 0, .ref (qm 18), .int 0, .ref (qm 19), .ref (qm 20), .ref (qm 21), .ref (qm 22)])), ((qm 0), .inl (ty 1, 912, .inl (kf 0))), ((qm 1), .inl (ty 3, 3, .inl (kf 0))), ((qm 2), .inl (ty 0, 800, .inl (kf 0))), ((qm 3), .inl (ty 1, 5, .inl (kf 0))), ((qm 4), .inl (ty 1, 304, .inl (kf 0))), ((qm 5), .inl (ty 3, 28, .inl (kf 0))), ((qm 6), .inl (ty 1, 28, .inl (kf 0))), ((qm 7), .inl (ty 1, 256, .inl (kf 0))), ((qm 8), .inl (ty 1, 256, .inl (kf 0))), ((qm 9), .inl (ty 3, 16, .inl (kf 0))), ((qm 10), .inl (ty 1, 28, .inl (kf 0))), ((qm 11), .inl (ty 1, 28, .inl (kf 0))), ((qm 12), .inl (ty 1, 44, .inl (kf 0))), ((qm 13), .inl (ty 1, 2, .inl (kf 0))), ((qm 14), .inl (ty 1, 9, .inl (kf 0))), ((qm 15), .inl (ty 1, 512, .inl (kf 0))), ((qm 16), .inl (ty 1, 512, .inl (kf 0))), ((qm 17), .inl (ty 1, 16, .inl (kf 0))), ((qm 18), .inl (ty 1, 2, .inl (kf 0))), ((qm 19), .inl (ty 1, 4, .inl (upd (upd (upd (upd (kf 0) 0 (-1)) 1 (-1)) 2 (-1)) 3 (-1)))), ((qm 20), .inl (ty 1, 4, .inl (kf 0))), ((qm 21), .inl (ty 2, 240, .inr (.inl (kj 0)))), ((qm 22), .inl (ty 2, 60, .inr (.inl (kj 0)))), ((qm 23), .inl (ty 1, 304, .inl (upd (upd (kf 0) 1 2) 4 (-1))))] H := hP
    have hD : va_D (fun q : Nat => s.heap.size ≤ q) [(m0, .inr (12, [.int 0, .ref (qm 23), .ref (qm 0), .ref (qm 1), .ref (qm 2), .int 0, .ref (qm 3), .int 0, .int 0, .int 0, .int 0, .int 0, .int 0, .int (-1), .ref (qm 4), .ref (qm 5), .ref (qm 6), .ref (qm 7), .ref (qm 8), .ref (qm 9), .ref (qm 10), .ref (qm 11), .ref (qm 12), .int 0, .ref (qm 13), .int 0, .ref (qm 14), .int 0, .ref (qm 15), .ref (qm 16), .ref (qm 17), .int 0, .ref (qm 18), .int 0, .ref (qm 19), .ref (qm 20), .ref (qm 21), .ref (qm 22)])), ((qm 0), .inl (ty 1, 912, .inl (kf 0))), ((qm 1), .inl (ty 3, 3, .inl (kf 0))), ((qm 2), .inl (ty 0, 800, .inl (kf 0))), ((qm 3), .inl (ty 1, 5, .inl (kf 0))), ((qm 4), .inl (ty 1, 304, .inl (kf 0))), ((qm 5), .inl (ty 3, 28, .inl (kf 0))), ((qm 6), .inl (ty 1, 28, .inl (kf 0))), ((qm 7), .inl (ty 1, 256, .inl (kf 0))), ((qm 8), .inl (ty 1, 256, .inl (kf 0))), ((qm 9), .inl (ty 3, 16, .inl (kf 0))), ((qm 10), .inl (ty 1, 28, .inl (kf 0))), ((qm 11), .inl (ty 1, 28, .inl (kf 0))), ((qm 12), .inl (ty 1, 44, .inl (kf 0))), ((qm 13), .inl (ty 1, 2, .inl (kf 0))), ((qm 14), .inl (ty 1, 9, .inl (kf 0))), ((qm 15), .inl (ty 1, 512, .inl (kf 0))), ((qm 16), .inl (ty 1, 512, .inl (kf 0))), ((qm 17), .inl (ty 1, 16, .inl (kf 0))), ((qm 18), .inl (ty 1, 2, .inl (kf 0))), ((qm 19), .inl (ty 1, 4, .inl (upd (upd (upd (upd (kf 0) 0 (-1)) 1 (-1)) 2 (-1)) 3 (-1)))), ((qm 20), .inl (ty 1, 4, .inl (kf 0))), ((qm 21), .inl (ty 2, 240, .inr (.inl (kj 0)))), ((qm 22), .inl (ty 2, 60, .inr (.inl (kj 0)))), ((qm 23), .inl (ty 1, 304, .inl (upd (upd (kf 0) 1 2) 4 (-1))))] := hD
    refine lv_aload_n hx hb dL_law_1544 rfl (lv_at hl 1 rfl) ?_
    refine lv_aload_n hx hb dL_law_1545 rfl (lv_at hl 3 rfl) ?_
    refine lv_iload_n hx hb dL_law_1546 rfl (lv_at hl 0 rfl) ?_
    refine lv_iconst (v := 1) hx hb dL_law_1547 (by decide) ?_
    refine lv_iadd hx hb dL_law_1548 ?_
    refine tp_i (v := 1) (by decide) ?_
    refine va_sld hx hb hX hbl hbA hS (by unfold vp_in; decide) dL_law_1549 ?_
    refine tp_i (v := s1) h1 ?_
    refine lv_aload_n hx hb dL_law_1550 rfl (lv_at hl 3 rfl) ?_
    refine lv_iload_n hx hb dL_law_1551 rfl (lv_at hl 0 rfl) ?_
    refine lv_iconst (v := 2) hx hb dL_law_1552 (by decide) ?_
    refine lv_iadd hx hb dL_law_1553 ?_
    refine tp_i (v := 2) (by decide) ?_
    refine va_sld hx hb hX hbl hbA hS (by unfold vp_in; decide) dL_law_1554 ?_
    refine tp_i (v := s2) h2 ?_
    refine kc_i (va_runV (As := [.int s1, .int s2]) (rest := [.int (-2)]) ⟨hx, hb, hml, hown, hB⟩ (c215_X12_spare l D ty H.size m0 (qm 23) (qm 8) (qm 7) (qm 18) s1 s2 (.int 0) (.ref (qm 0)) (.ref (qm 1)) (.ref (qm 2)) (.int 0) (.ref (qm 3)) (.int 0) (.int 0) (.int 0) (.int 0) (.int 0) (.int 0) (.int (-1)) (.ref (qm 4)) (.ref (qm 5)) (.ref (qm 6)) (.ref (qm 9)) (.ref (qm 10)) (.ref (qm 11)) (.ref (qm 12)) (.int 0) (.ref (qm 13)) (.int 0) (.ref (qm 14)) (.int 0) (.ref (qm 15)) (.ref (qm 16)) (.ref (qm 17)) (.int 0) (.int 0) (.ref (qm 19)) (.ref (qm 20)) (.ref (qm 21)) (.ref (qm 22)) (kf 0) (kf 0) (kf 0)) (cwV 2 hB (bw_V mw_920 mw_921 mw_922 mw_211 mw_919) rfl rfl rfl (by decide +kernel) ⟨Nat.le_of_ble_eq_true rfl, Nat.le_of_ble_eq_true rfl⟩) (kp_V hK hP hD [0, 24, 9, 8, 19] (by decide) rfl 0 rfl rfl rfl) rfl rfl hl.1 rfl (lv_room (Nat.le_of_ble_eq_true rfl)) dL_law_1555 ⟨Nat.le_of_ble_eq_true rfl, Nat.le_of_ble_eq_true rfl⟩) hP hD hS hA [0, 24, 9, 8, 19] [] (wr := []) rfl rfl (by decide) (by decide) (fun r u H locs w4 hP hD hS => ?_)
    rcases w4 with ⟨c5, rfl, rfl⟩ | ⟨c6, rfl, rfl⟩
    · exact (ps_43 s1 s2 c2 c5).elim
    · have hP : va_P D vwCl [] H := hP
      have hD : va_D (fun q : Nat => s.heap.size ≤ q) [] := hD
      refine lv_icmp_eq (tgt := 1933) hx hb dL_law_1558 (by decide) (fun _ => ?_) (fun h9 => absurd (by decide) h9)
      refine lv_iinc (v := 6) (lv' := [(3, .int 6), (2, .ref m0), (1, .ref x0), (0, .ref b)]) hx hb dL_law_1933 hl (k := 0) rfl (by decide) (by decide) rfl (fun ls hl => ?_)
      refine lv_goto (tgt := 18) hx hb dL_law_1936 (by decide) ?_
      exact law_end l (Nat.le_refl 6) C0 hS (lv_sub hl [0, 3] rfl)
  · have hP : va_P D vwCl [(m0, .inr (12, [.int 0, .ref (qm 23), .ref (qm 0), .ref (qm 1), .ref (qm 2), .int 0, .ref (qm 3), .int 0, .int 0, .int 0, .int 0, .int 0, .int 0, .int (-1), .ref (qm 4), .ref (qm 5), .ref (qm 6), .ref (qm 7), .ref (qm 8), .ref (qm 9), .ref (qm 10), .ref (qm 11), .ref (qm 12), .int 0, .ref (qm 13), .int 0, .ref (qm 14), .int 0, .ref (qm 15), .ref (qm 16), .ref (qm 17), .int 0, .ref (qm 18), .int 0, .ref (qm 19), .ref (qm 20), .ref (qm 21), .ref (qm 22)])), ((qm 0), .inl (ty 1, 912, .inl (kf 0))), ((qm 1), .inl (ty 3, 3, .inl (kf 0))), ((qm 2), .inl (ty 0, 800, .inl (kf 0))), ((qm 3), .inl (ty 1, 5, .inl (kf 0))), ((qm 4), .inl (ty 1, 304, .inl (kf 0))), ((qm 5), .inl (ty 3, 28, .inl (kf 0))), ((qm 6), .inl (ty 1, 28, .inl (kf 0))), ((qm 7), .inl (ty 1, 256, .inl (kf 0))), ((qm 8), .inl (ty 1, 256, .inl (kf 0))), ((qm 9), .inl (ty 3, 16, .inl (kf 0))), ((qm 10), .inl (ty 1, 28, .inl (kf 0))), ((qm 11), .inl (ty 1, 28, .inl (kf 0))), ((qm 12), .inl (ty 1, 44, .inl (kf 0))), ((qm 13), .inl (ty 1, 2, .inl (kf 0))), ((qm 14), .inl (ty 1, 9, .inl (kf 0))), ((qm 15), .inl (ty 1, 512, .inl (kf 0))), ((qm 16), .inl (ty 1, 512, .inl (kf 0))), ((qm 17), .inl (ty 1, 16, .inl (kf 0))), ((qm 18), .inl (ty 1, 2, .inl (kf 0))), ((qm 19), .inl (ty 1, 4, .inl (upd (upd (upd (upd (kf 0) 0 (-1)) 1 (-1)) 2 (-1)) 3 (-1)))), ((qm 20), .inl (ty 1, 4, .inl (kf 0))), ((qm 21), .inl (ty 2, 240, .inr (.inl (kj 0)))), ((qm 22), .inl (ty 2, 60, .inr (.inl (kj 0)))), ((qm 23), .inl (ty 1, 304, .inl (upd (upd (kf 0) 1 2) 4 (-1))))] H := hP
    have hD : va_D (fun q : Nat => s.heap.size ≤ q) [(m0, .inr (12, [.int 0, .ref (qm 23), .ref (qm 0), .ref (qm 1), .ref (qm 2), .int 0, .ref (qm 3), .int 0, .int 0, .int 0, .int 0, .int 0, .int 0, .int (-1), .ref (qm 4), .ref (qm 5), .ref (qm 6), .ref (qm 7), .ref (qm 8), .ref (qm 9), .ref (qm 10), .ref (qm 11), .ref (qm 12), .int 0, .ref (qm 13), .int 0, .ref (qm 14), .int 0, .ref (qm 15), .ref (qm 16), .ref (qm 17), .int 0, .ref (qm 18), .int 0, .ref (qm 19), .ref (qm 20), .ref (qm 21), .ref (qm 22)])), ((qm 0), .inl (ty 1, 912, .inl (kf 0))), ((qm 1), .inl (ty 3, 3, .inl (kf 0))), ((qm 2), .inl (ty 0, 800, .inl (kf 0))), ((qm 3), .inl (ty 1, 5, .inl (kf 0))), ((qm 4), .inl (ty 1, 304, .inl (kf 0))), ((qm 5), .inl (ty 3, 28, .inl (kf 0))), ((qm 6), .inl (ty 1, 28, .inl (kf 0))), ((qm 7), .inl (ty 1, 256, .inl (kf 0))), ((qm 8), .inl (ty 1, 256, .inl (kf 0))), ((qm 9), .inl (ty 3, 16, .inl (kf 0))), ((qm 10), .inl (ty 1, 28, .inl (kf 0))), ((qm 11), .inl (ty 1, 28, .inl (kf 0))), ((qm 12), .inl (ty 1, 44, .inl (kf 0))), ((qm 13), .inl (ty 1, 2, .inl (kf 0))), ((qm 14), .inl (ty 1, 9, .inl (kf 0))), ((qm 15), .inl (ty 1, 512, .inl (kf 0))), ((qm 16), .inl (ty 1, 512, .inl (kf 0))), ((qm 17), .inl (ty 1, 16, .inl (kf 0))), ((qm 18), .inl (ty 1, 2, .inl (kf 0))), ((qm 19), .inl (ty 1, 4, .inl (upd (upd (upd (upd (kf 0) 0 (-1)) 1 (-1)) 2 (-1)) 3 (-1)))), ((qm 20), .inl (ty 1, 4, .inl (kf 0))), ((qm 21), .inl (ty 2, 240, .inr (.inl (kj 0)))), ((qm 22), .inl (ty 2, 60, .inr (.inl (kj 0)))), ((qm 23), .inl (ty 1, 304, .inl (upd (upd (kf 0) 1 2) 4 (-1))))] := hD
    refine lv_aload_n hx hb dL_law_1544 rfl (lv_at hl 1 rfl) ?_
    refine lv_aload_n hx hb dL_law_1545 rfl (lv_at hl 3 rfl) ?_
    refine lv_iload_n hx hb dL_law_1546 rfl (lv_at hl 0 rfl) ?_
    refine lv_iconst (v := 1) hx hb dL_law_1547 (by decide) ?_
    refine lv_iadd hx hb dL_law_1548 ?_
    refine tp_i (v := 1) (by decide) ?_
    refine va_sld hx hb hX hbl hbA hS (by unfold vp_in; decide) dL_law_1549 ?_
    refine tp_i (v := s1) h1 ?_
    refine lv_aload_n hx hb dL_law_1550 rfl (lv_at hl 3 rfl) ?_
    refine lv_iload_n hx hb dL_law_1551 rfl (lv_at hl 0 rfl) ?_
    refine lv_iconst (v := 2) hx hb dL_law_1552 (by decide) ?_
    refine lv_iadd hx hb dL_law_1553 ?_
    refine tp_i (v := 2) (by decide) ?_
    refine va_sld hx hb hX hbl hbA hS (by unfold vp_in; decide) dL_law_1554 ?_
    refine tp_i (v := s2) h2 ?_
    refine kc_i (va_runV (As := [.int s1, .int s2]) (rest := [.int 0]) ⟨hx, hb, hml, hown, hB⟩ (c215_X12_spare l D ty H.size m0 (qm 23) (qm 8) (qm 7) (qm 18) s1 s2 (.int 0) (.ref (qm 0)) (.ref (qm 1)) (.ref (qm 2)) (.int 0) (.ref (qm 3)) (.int 0) (.int 0) (.int 0) (.int 0) (.int 0) (.int 0) (.int (-1)) (.ref (qm 4)) (.ref (qm 5)) (.ref (qm 6)) (.ref (qm 9)) (.ref (qm 10)) (.ref (qm 11)) (.ref (qm 12)) (.int 0) (.ref (qm 13)) (.int 0) (.ref (qm 14)) (.int 0) (.ref (qm 15)) (.ref (qm 16)) (.ref (qm 17)) (.int 0) (.int 0) (.ref (qm 19)) (.ref (qm 20)) (.ref (qm 21)) (.ref (qm 22)) (kf 0) (kf 0) (kf 0)) (cwV 2 hB (bw_V mw_920 mw_921 mw_922 mw_211 mw_919) rfl rfl rfl (by decide +kernel) ⟨Nat.le_of_ble_eq_true rfl, Nat.le_of_ble_eq_true rfl⟩) (kp_V hK hP hD [0, 24, 9, 8, 19] (by decide) rfl 0 rfl rfl rfl) rfl rfl hl.1 rfl (lv_room (Nat.le_of_ble_eq_true rfl)) dL_law_1555 ⟨Nat.le_of_ble_eq_true rfl, Nat.le_of_ble_eq_true rfl⟩) hP hD hS hA [0, 24, 9, 8, 19] [] (wr := []) rfl rfl (by decide) (by decide) (fun r u H locs w7 hP hD hS => ?_)
    rcases w7 with ⟨c8, rfl, rfl⟩ | ⟨c9, rfl, rfl⟩
    · have hP : va_P D vwCl [] H := hP
      have hD : va_D (fun q : Nat => s.heap.size ≤ q) [] := hD
      refine lv_icmp_eq (tgt := 1933) hx hb dL_law_1558 (by decide) (fun _ => ?_) (fun h9 => absurd (by decide) h9)
      refine lv_iinc (v := 6) (lv' := [(3, .int 6), (2, .ref m0), (1, .ref x0), (0, .ref b)]) hx hb dL_law_1933 hl (k := 0) rfl (by decide) (by decide) rfl (fun ls hl => ?_)
      refine lv_goto (tgt := 18) hx hb dL_law_1936 (by decide) ?_
      exact law_end l (Nat.le_refl 6) C0 hS (lv_sub hl [0, 3] rfl)
    · exact (ps_44 s1 s2 c3 c9).elim

set_option maxHeartbeats 4000000 in
set_option maxRecDepth 100000 in
theorem br_45 {p : Program} {e : Env} {s : State} {m : MethodId} {below : List Frame} {meth : Method} {c : Code} (l : Launch) {b : Nat} {xs : Nat → Int32} (C0 : lw_At p s m meth c b 6 xs) (D : va_G) (ty : Nat → ClassId) (hK : kK D ty s) (x0 m0 : Nat) (qx qm : Nat → Nat) {H : Heap} {locs : List Loc} {ls : Array Slot} (hP : va_P D vwCl (lawW ty x0 m0 qx qm) H) (hD : va_D (fun q : Nat => s.heap.size ≤ q) (lawW ty x0 m0 qx qm)) (hS : va_S (fun q : Nat => s.heap.size ≤ q) s.heap H locs) (hl : lv_has ls 4 [(3, .int 0), (2, .ref m0), (1, .ref x0), (0, .ref b)]) :
    W p l e room_1 s m #[Value.ref b] below meth c H locs 200 10000 (lw_Z below #[Value.ref b] s) (F0 m 1563 ls []) := by
  obtain ⟨hx, hb, hr, hml, hown0, hts, hX, hbl, hlocks, hgv⟩ := id C0
  have hown : s.vm.findClass RL = some m.cls := hown0
  have hB : ∀ w ∈ bW, w.before #[Value.ref b] s = true := fun w h => hts w (bW_lw h)
  have hA : ∀ q : Nat, s.heap.size ≤ q → (fun q : Nat => s.heap.size ≤ q) q := fun _ h => h
  have hbA : ¬ (fun q : Nat => s.heap.size ≤ q) b := Nat.not_le.mpr hbl
  obtain ⟨s1, h1⟩ : ∃ y, xs 1 = y := ⟨_, rfl⟩
  obtain ⟨s2, h2⟩ : ∃ y, xs 2 = y := ⟨_, rfl⟩
  obtain ⟨s3, h3⟩ : ∃ y, xs 3 = y := ⟨_, rfl⟩
  obtain ⟨s4, h4⟩ : ∃ y, xs 4 = y := ⟨_, rfl⟩
  obtain ⟨s5, h5⟩ : ∃ y, xs 5 = y := ⟨_, rfl⟩
  refine lv_aload_n hx hb dL_law_1563 rfl (lv_at hl 2 rfl) ?_
  refine lv_aload_n hx hb dL_law_1564 rfl (lv_at hl 3 rfl) ?_
  refine lv_iload_n hx hb dL_law_1565 rfl (lv_at hl 0 rfl) ?_
  refine lv_iconst (v := 1) hx hb dL_law_1566 (by decide) ?_
  refine lv_iadd hx hb dL_law_1567 ?_
  refine tp_i (v := 1) (by decide) ?_
  refine va_sld hx hb hX hbl hbA hS (by unfold vp_in; decide) dL_law_1568 ?_
  refine tp_i (v := s1) h1 ?_
  refine kc_i (va_runV (As := [.int s1]) (rest := []) ⟨hx, hb, hml, hown, hB⟩ (c123_X11_spared l D ty H.size x0 s1 (.ref (qx 0)) (.int 0) (.ref (qx 1)) (.ref (qx 19)) (.ref (qx 35)) (.ref (qx 36)) (.ref (qx 119)) (.ref (qx 42)) (.ref (qx 44)) (.ref (qx 45)) (.ref (qx 50)) (.int (-1)) (.int (-1))) (cwV 1 hB (bw_V mw_924 mw_925 mw_926 mw_216 mw_923) rfl rfl rfl (by decide +kernel) ⟨Nat.le_of_ble_eq_true rfl, Nat.le_of_ble_eq_true rfl⟩) (kp_V hK hP hD [0] (by decide) rfl 0 rfl rfl rfl) rfl rfl hl.1 rfl (lv_room (Nat.le_of_ble_eq_true rfl)) dL_law_1569 ⟨Nat.le_of_ble_eq_true rfl, Nat.le_of_ble_eq_true rfl⟩) hP hD hS hA [0] [122, 123, 124, 125, 126, 127, 128, 129, 130, 131, 132, 133, 134, 135, 136, 137, 138, 139, 140, 141, 142, 143, 144, 145, 146] (wr := [(m0, .inr (12, [.int 0, .ref (qm 23), .ref (qm 0), .ref (qm 1), .ref (qm 2), .int 0, .ref (qm 3), .int 0, .int 0, .int 0, .int 0, .int 0, .int 0, .int (-1), .ref (qm 4), .ref (qm 5), .ref (qm 6), .ref (qm 7), .ref (qm 8), .ref (qm 9), .ref (qm 10), .ref (qm 11), .ref (qm 12), .int 0, .ref (qm 13), .int 0, .ref (qm 14), .int 0, .ref (qm 15), .ref (qm 16), .ref (qm 17), .int 0, .ref (qm 18), .int 0, .ref (qm 19), .ref (qm 20), .ref (qm 21), .ref (qm 22)])), ((qm 0), .inl (ty 1, 912, .inl (kf 0))), ((qm 1), .inl (ty 3, 3, .inl (kf 0))), ((qm 2), .inl (ty 0, 800, .inl (kf 0))), ((qm 3), .inl (ty 1, 5, .inl (kf 0))), ((qm 4), .inl (ty 1, 304, .inl (kf 0))), ((qm 5), .inl (ty 3, 28, .inl (kf 0))), ((qm 6), .inl (ty 1, 28, .inl (kf 0))), ((qm 7), .inl (ty 1, 256, .inl (kf 0))), ((qm 8), .inl (ty 1, 256, .inl (kf 0))), ((qm 9), .inl (ty 3, 16, .inl (kf 0))), ((qm 10), .inl (ty 1, 28, .inl (kf 0))), ((qm 11), .inl (ty 1, 28, .inl (kf 0))), ((qm 12), .inl (ty 1, 44, .inl (kf 0))), ((qm 13), .inl (ty 1, 2, .inl (kf 0))), ((qm 14), .inl (ty 1, 9, .inl (kf 0))), ((qm 15), .inl (ty 1, 512, .inl (kf 0))), ((qm 16), .inl (ty 1, 512, .inl (kf 0))), ((qm 17), .inl (ty 1, 16, .inl (kf 0))), ((qm 18), .inl (ty 1, 2, .inl (kf 0))), ((qm 19), .inl (ty 1, 4, .inl (upd (upd (upd (upd (kf 0) 0 (-1)) 1 (-1)) 2 (-1)) 3 (-1)))), ((qm 20), .inl (ty 1, 4, .inl (kf 0))), ((qm 21), .inl (ty 2, 240, .inr (.inl (kj 0)))), ((qm 22), .inl (ty 2, 60, .inr (.inl (kj 0)))), ((qm 23), .inl (ty 1, 304, .inl (upd (upd (kf 0) 1 2) 4 (-1))))]) rfl rfl (by decide) (by decide) (fun r u H locs w1 hP hD hS => ?_)
  obtain ⟨rfl, rfl⟩ := w1
  have hP : va_P D vwCl [(m0, .inr (12, [.int 0, .ref (qm 23), .ref (qm 0), .ref (qm 1), .ref (qm 2), .int 0, .ref (qm 3), .int 0, .int 0, .int 0, .int 0, .int 0, .int 0, .int (-1), .ref (qm 4), .ref (qm 5), .ref (qm 6), .ref (qm 7), .ref (qm 8), .ref (qm 9), .ref (qm 10), .ref (qm 11), .ref (qm 12), .int 0, .ref (qm 13), .int 0, .ref (qm 14), .int 0, .ref (qm 15), .ref (qm 16), .ref (qm 17), .int 0, .ref (qm 18), .int 0, .ref (qm 19), .ref (qm 20), .ref (qm 21), .ref (qm 22)])), ((qm 0), .inl (ty 1, 912, .inl (kf 0))), ((qm 1), .inl (ty 3, 3, .inl (kf 0))), ((qm 2), .inl (ty 0, 800, .inl (kf 0))), ((qm 3), .inl (ty 1, 5, .inl (kf 0))), ((qm 4), .inl (ty 1, 304, .inl (kf 0))), ((qm 5), .inl (ty 3, 28, .inl (kf 0))), ((qm 6), .inl (ty 1, 28, .inl (kf 0))), ((qm 7), .inl (ty 1, 256, .inl (kf 0))), ((qm 8), .inl (ty 1, 256, .inl (kf 0))), ((qm 9), .inl (ty 3, 16, .inl (kf 0))), ((qm 10), .inl (ty 1, 28, .inl (kf 0))), ((qm 11), .inl (ty 1, 28, .inl (kf 0))), ((qm 12), .inl (ty 1, 44, .inl (kf 0))), ((qm 13), .inl (ty 1, 2, .inl (kf 0))), ((qm 14), .inl (ty 1, 9, .inl (kf 0))), ((qm 15), .inl (ty 1, 512, .inl (kf 0))), ((qm 16), .inl (ty 1, 512, .inl (kf 0))), ((qm 17), .inl (ty 1, 16, .inl (kf 0))), ((qm 18), .inl (ty 1, 2, .inl (kf 0))), ((qm 19), .inl (ty 1, 4, .inl (upd (upd (upd (upd (kf 0) 0 (-1)) 1 (-1)) 2 (-1)) 3 (-1)))), ((qm 20), .inl (ty 1, 4, .inl (kf 0))), ((qm 21), .inl (ty 2, 240, .inr (.inl (kj 0)))), ((qm 22), .inl (ty 2, 60, .inr (.inl (kj 0)))), ((qm 23), .inl (ty 1, 304, .inl (upd (upd (kf 0) 1 2) 4 (-1))))] H := hP
  have hD : va_D (fun q : Nat => s.heap.size ≤ q) [(m0, .inr (12, [.int 0, .ref (qm 23), .ref (qm 0), .ref (qm 1), .ref (qm 2), .int 0, .ref (qm 3), .int 0, .int 0, .int 0, .int 0, .int 0, .int 0, .int (-1), .ref (qm 4), .ref (qm 5), .ref (qm 6), .ref (qm 7), .ref (qm 8), .ref (qm 9), .ref (qm 10), .ref (qm 11), .ref (qm 12), .int 0, .ref (qm 13), .int 0, .ref (qm 14), .int 0, .ref (qm 15), .ref (qm 16), .ref (qm 17), .int 0, .ref (qm 18), .int 0, .ref (qm 19), .ref (qm 20), .ref (qm 21), .ref (qm 22)])), ((qm 0), .inl (ty 1, 912, .inl (kf 0))), ((qm 1), .inl (ty 3, 3, .inl (kf 0))), ((qm 2), .inl (ty 0, 800, .inl (kf 0))), ((qm 3), .inl (ty 1, 5, .inl (kf 0))), ((qm 4), .inl (ty 1, 304, .inl (kf 0))), ((qm 5), .inl (ty 3, 28, .inl (kf 0))), ((qm 6), .inl (ty 1, 28, .inl (kf 0))), ((qm 7), .inl (ty 1, 256, .inl (kf 0))), ((qm 8), .inl (ty 1, 256, .inl (kf 0))), ((qm 9), .inl (ty 3, 16, .inl (kf 0))), ((qm 10), .inl (ty 1, 28, .inl (kf 0))), ((qm 11), .inl (ty 1, 28, .inl (kf 0))), ((qm 12), .inl (ty 1, 44, .inl (kf 0))), ((qm 13), .inl (ty 1, 2, .inl (kf 0))), ((qm 14), .inl (ty 1, 9, .inl (kf 0))), ((qm 15), .inl (ty 1, 512, .inl (kf 0))), ((qm 16), .inl (ty 1, 512, .inl (kf 0))), ((qm 17), .inl (ty 1, 16, .inl (kf 0))), ((qm 18), .inl (ty 1, 2, .inl (kf 0))), ((qm 19), .inl (ty 1, 4, .inl (upd (upd (upd (upd (kf 0) 0 (-1)) 1 (-1)) 2 (-1)) 3 (-1)))), ((qm 20), .inl (ty 1, 4, .inl (kf 0))), ((qm 21), .inl (ty 2, 240, .inr (.inl (kj 0)))), ((qm 22), .inl (ty 2, 60, .inr (.inl (kj 0)))), ((qm 23), .inl (ty 1, 304, .inl (upd (upd (kf 0) 1 2) 4 (-1))))] := hD
  refine lv_aload_n hx hb dL_law_1572 rfl (lv_at hl 1 rfl) ?_
  refine lv_aload_n hx hb dL_law_1573 rfl (lv_at hl 3 rfl) ?_
  refine lv_iload_n hx hb dL_law_1574 rfl (lv_at hl 0 rfl) ?_
  refine lv_iconst (v := 1) hx hb dL_law_1575 (by decide) ?_
  refine lv_iadd hx hb dL_law_1576 ?_
  refine tp_i (v := 1) (by decide) ?_
  refine va_sld hx hb hX hbl hbA hS (by unfold vp_in; decide) dL_law_1577 ?_
  refine tp_i (v := s1) h1 ?_
  refine kc_i (va_runV (As := [.int s1]) (rest := [.int (-1)]) ⟨hx, hb, hml, hown, hB⟩ (c217_X12_spared l D ty H.size m0 s1 (.int 0) (.ref (qm 23)) (.ref (qm 0)) (.ref (qm 1)) (.ref (qm 2)) (.int 0) (.ref (qm 3)) (.int 0) (.int 0) (.int 0) (.int 0) (.int 0) (.int 0) (.int (-1)) (.ref (qm 4)) (.ref (qm 5)) (.ref (qm 6)) (.ref (qm 7)) (.ref (qm 8)) (.ref (qm 9)) (.ref (qm 10)) (.ref (qm 11)) (.ref (qm 12)) (.int 0) (.ref (qm 13)) (.int 0) (.ref (qm 14)) (.int 0) (.ref (qm 15)) (.ref (qm 16)) (.ref (qm 17)) (.int 0) (.ref (qm 18)) (.ref (qm 19)) (.ref (qm 20)) (.ref (qm 21)) (.ref (qm 22))) (cwV 1 hB (bw_V mw_928 mw_929 mw_930 mw_211 mw_927) rfl rfl rfl (by decide +kernel) ⟨Nat.le_of_ble_eq_true rfl, Nat.le_of_ble_eq_true rfl⟩) (kp_V hK hP hD [0] (by decide) rfl 0 rfl rfl rfl) rfl rfl hl.1 rfl (lv_room (Nat.le_of_ble_eq_true rfl)) dL_law_1578 ⟨Nat.le_of_ble_eq_true rfl, Nat.le_of_ble_eq_true rfl⟩) hP hD hS hA [0] [] (wr := []) rfl rfl (by decide) (by decide) (fun r u H locs w2 hP hD hS => ?_)
  obtain ⟨rfl, rfl⟩ := w2
  have hP : va_P D vwCl [] H := hP
  have hD : va_D (fun q : Nat => s.heap.size ≤ q) [] := hD
  refine lv_icmp_eq (tgt := 1933) hx hb dL_law_1581 (by decide) (fun _ => ?_) (fun h9 => absurd (by decide) h9)
  refine lv_iinc (v := 6) (lv' := [(3, .int 6), (2, .ref m0), (1, .ref x0), (0, .ref b)]) hx hb dL_law_1933 hl (k := 0) rfl (by decide) (by decide) rfl (fun ls hl => ?_)
  refine lv_goto (tgt := 18) hx hb dL_law_1936 (by decide) ?_
  exact law_end l (Nat.le_refl 6) C0 hS (lv_sub hl [0, 3] rfl)

set_option maxHeartbeats 4000000 in
set_option maxRecDepth 100000 in
theorem br_46 {p : Program} {e : Env} {s : State} {m : MethodId} {below : List Frame} {meth : Method} {c : Code} (l : Launch) {b : Nat} {xs : Nat → Int32} (C0 : lw_At p s m meth c b 6 xs) (D : va_G) (ty : Nat → ClassId) (hK : kK D ty s) (x0 m0 : Nat) (qx qm : Nat → Nat) {H : Heap} {locs : List Loc} {ls : Array Slot} (hP : va_P D vwCl (lawW ty x0 m0 qx qm) H) (hD : va_D (fun q : Nat => s.heap.size ≤ q) (lawW ty x0 m0 qx qm)) (hS : va_S (fun q : Nat => s.heap.size ≤ q) s.heap H locs) (hl : lv_has ls 4 [(3, .int 0), (2, .ref m0), (1, .ref x0), (0, .ref b)]) :
    W p l e room_1 s m #[Value.ref b] below meth c H locs 200 10000 (lw_Z below #[Value.ref b] s) (F0 m 1586 ls []) := by
  obtain ⟨hx, hb, hr, hml, hown0, hts, hX, hbl, hlocks, hgv⟩ := id C0
  have hown : s.vm.findClass RL = some m.cls := hown0
  have hB : ∀ w ∈ bW, w.before #[Value.ref b] s = true := fun w h => hts w (bW_lw h)
  have hA : ∀ q : Nat, s.heap.size ≤ q → (fun q : Nat => s.heap.size ≤ q) q := fun _ h => h
  have hbA : ¬ (fun q : Nat => s.heap.size ≤ q) b := Nat.not_le.mpr hbl
  obtain ⟨s1, h1⟩ : ∃ y, xs 1 = y := ⟨_, rfl⟩
  obtain ⟨s2, h2⟩ : ∃ y, xs 2 = y := ⟨_, rfl⟩
  obtain ⟨s3, h3⟩ : ∃ y, xs 3 = y := ⟨_, rfl⟩
  obtain ⟨s4, h4⟩ : ∃ y, xs 4 = y := ⟨_, rfl⟩
  obtain ⟨s5, h5⟩ : ∃ y, xs 5 = y := ⟨_, rfl⟩
  refine lv_aload_n hx hb dL_law_1586 rfl (lv_at hl 2 rfl) ?_
  refine lv_aload_n hx hb dL_law_1587 rfl (lv_at hl 3 rfl) ?_
  refine lv_iload_n hx hb dL_law_1588 rfl (lv_at hl 0 rfl) ?_
  refine lv_iconst (v := 1) hx hb dL_law_1589 (by decide) ?_
  refine lv_iadd hx hb dL_law_1590 ?_
  refine tp_i (v := 1) (by decide) ?_
  refine va_sld hx hb hX hbl hbA hS (by unfold vp_in; decide) dL_law_1591 ?_
  refine tp_i (v := s1) h1 ?_
  refine lv_aload_n hx hb dL_law_1592 rfl (lv_at hl 3 rfl) ?_
  refine lv_iload_n hx hb dL_law_1593 rfl (lv_at hl 0 rfl) ?_
  refine lv_iconst (v := 2) hx hb dL_law_1594 (by decide) ?_
  refine lv_iadd hx hb dL_law_1595 ?_
  refine tp_i (v := 2) (by decide) ?_
  refine va_sld hx hb hX hbl hbA hS (by unfold vp_in; decide) dL_law_1596 ?_
  refine tp_i (v := s2) h2 ?_
  refine kc_i (va_runV (As := [.int s1, .int s2]) (rest := []) ⟨hx, hb, hml, hown, hB⟩ (c124_X11_alley l D ty H.size x0 (qx 19) (qx 118) s1 s2 (.ref (qx 0)) (.int 0) (.ref (qx 1)) (.ref (qx 35)) (.ref (qx 36)) (.ref (qx 119)) (.ref (qx 42)) (.ref (qx 44)) (.ref (qx 45)) (.ref (qx 50)) (.int (-1)) (.int (-1)) (.int (-1)) (.int (-1)) (.ref (qx 32)) (.int 0) (.int 0) (.int 2) (.int (-1)) (.int 0) (.int 0) (.ref (qx 20)) (.ref (qx 21)) (.ref (qx 22)) (.ref (qx 23)) (.int 0) (.int 0) (.ref (qx 24)) (.ref (qx 28)) (.ref (qx 117)) (.ref (qx 31)) (.ref (qx 116)) (.int 0)) (cwV 2 hB (bw_V mw_932 mw_933 mw_934 mw_216 mw_931) rfl rfl rfl (by decide +kernel) ⟨Nat.le_of_ble_eq_true rfl, Nat.le_of_ble_eq_true rfl⟩) (kp_V hK hP hD [0, 20, 119] (by decide) rfl 0 rfl rfl rfl) rfl rfl hl.1 rfl (lv_room (Nat.le_of_ble_eq_true rfl)) dL_law_1597 ⟨Nat.le_of_ble_eq_true rfl, Nat.le_of_ble_eq_true rfl⟩) hP hD hS hA [0, 20, 119] [122, 123, 124, 125, 126, 127, 128, 129, 130, 131, 132, 133, 134, 135, 136, 137, 138, 139, 140, 141, 142, 143, 144, 145, 146] (wr := [(m0, .inr (12, [.int 0, .ref (qm 23), .ref (qm 0), .ref (qm 1), .ref (qm 2), .int 0, .ref (qm 3), .int 0, .int 0, .int 0, .int 0, .int 0, .int 0, .int (-1), .ref (qm 4), .ref (qm 5), .ref (qm 6), .ref (qm 7), .ref (qm 8), .ref (qm 9), .ref (qm 10), .ref (qm 11), .ref (qm 12), .int 0, .ref (qm 13), .int 0, .ref (qm 14), .int 0, .ref (qm 15), .ref (qm 16), .ref (qm 17), .int 0, .ref (qm 18), .int 0, .ref (qm 19), .ref (qm 20), .ref (qm 21), .ref (qm 22)])), ((qm 0), .inl (ty 1, 912, .inl (kf 0))), ((qm 1), .inl (ty 3, 3, .inl (kf 0))), ((qm 2), .inl (ty 0, 800, .inl (kf 0))), ((qm 3), .inl (ty 1, 5, .inl (kf 0))), ((qm 4), .inl (ty 1, 304, .inl (kf 0))), ((qm 5), .inl (ty 3, 28, .inl (kf 0))), ((qm 6), .inl (ty 1, 28, .inl (kf 0))), ((qm 7), .inl (ty 1, 256, .inl (kf 0))), ((qm 8), .inl (ty 1, 256, .inl (kf 0))), ((qm 9), .inl (ty 3, 16, .inl (kf 0))), ((qm 10), .inl (ty 1, 28, .inl (kf 0))), ((qm 11), .inl (ty 1, 28, .inl (kf 0))), ((qm 12), .inl (ty 1, 44, .inl (kf 0))), ((qm 13), .inl (ty 1, 2, .inl (kf 0))), ((qm 14), .inl (ty 1, 9, .inl (kf 0))), ((qm 15), .inl (ty 1, 512, .inl (kf 0))), ((qm 16), .inl (ty 1, 512, .inl (kf 0))), ((qm 17), .inl (ty 1, 16, .inl (kf 0))), ((qm 18), .inl (ty 1, 2, .inl (kf 0))), ((qm 19), .inl (ty 1, 4, .inl (upd (upd (upd (upd (kf 0) 0 (-1)) 1 (-1)) 2 (-1)) 3 (-1)))), ((qm 20), .inl (ty 1, 4, .inl (kf 0))), ((qm 21), .inl (ty 2, 240, .inr (.inl (kj 0)))), ((qm 22), .inl (ty 2, 60, .inr (.inl (kj 0)))), ((qm 23), .inl (ty 1, 304, .inl (upd (upd (kf 0) 1 2) 4 (-1))))]) rfl rfl (by decide) (by decide) (fun r u H locs w1 hP hD hS => ?_)
  obtain ⟨rfl, rfl⟩ := w1
  have hP : va_P D vwCl [(m0, .inr (12, [.int 0, .ref (qm 23), .ref (qm 0), .ref (qm 1), .ref (qm 2), .int 0, .ref (qm 3), .int 0, .int 0, .int 0, .int 0, .int 0, .int 0, .int (-1), .ref (qm 4), .ref (qm 5), .ref (qm 6), .ref (qm 7), .ref (qm 8), .ref (qm 9), .ref (qm 10), .ref (qm 11), .ref (qm 12), .int 0, .ref (qm 13), .int 0, .ref (qm 14), .int 0, .ref (qm 15), .ref (qm 16), .ref (qm 17), .int 0, .ref (qm 18), .int 0, .ref (qm 19), .ref (qm 20), .ref (qm 21), .ref (qm 22)])), ((qm 0), .inl (ty 1, 912, .inl (kf 0))), ((qm 1), .inl (ty 3, 3, .inl (kf 0))), ((qm 2), .inl (ty 0, 800, .inl (kf 0))), ((qm 3), .inl (ty 1, 5, .inl (kf 0))), ((qm 4), .inl (ty 1, 304, .inl (kf 0))), ((qm 5), .inl (ty 3, 28, .inl (kf 0))), ((qm 6), .inl (ty 1, 28, .inl (kf 0))), ((qm 7), .inl (ty 1, 256, .inl (kf 0))), ((qm 8), .inl (ty 1, 256, .inl (kf 0))), ((qm 9), .inl (ty 3, 16, .inl (kf 0))), ((qm 10), .inl (ty 1, 28, .inl (kf 0))), ((qm 11), .inl (ty 1, 28, .inl (kf 0))), ((qm 12), .inl (ty 1, 44, .inl (kf 0))), ((qm 13), .inl (ty 1, 2, .inl (kf 0))), ((qm 14), .inl (ty 1, 9, .inl (kf 0))), ((qm 15), .inl (ty 1, 512, .inl (kf 0))), ((qm 16), .inl (ty 1, 512, .inl (kf 0))), ((qm 17), .inl (ty 1, 16, .inl (kf 0))), ((qm 18), .inl (ty 1, 2, .inl (kf 0))), ((qm 19), .inl (ty 1, 4, .inl (upd (upd (upd (upd (kf 0) 0 (-1)) 1 (-1)) 2 (-1)) 3 (-1)))), ((qm 20), .inl (ty 1, 4, .inl (kf 0))), ((qm 21), .inl (ty 2, 240, .inr (.inl (kj 0)))), ((qm 22), .inl (ty 2, 60, .inr (.inl (kj 0)))), ((qm 23), .inl (ty 1, 304, .inl (upd (upd (kf 0) 1 2) 4 (-1))))] H := hP
  have hD : va_D (fun q : Nat => s.heap.size ≤ q) [(m0, .inr (12, [.int 0, .ref (qm 23), .ref (qm 0), .ref (qm 1), .ref (qm 2), .int 0, .ref (qm 3), .int 0, .int 0, .int 0, .int 0, .int 0, .int 0, .int (-1), .ref (qm 4), .ref (qm 5), .ref (qm 6), .ref (qm 7), .ref (qm 8), .ref (qm 9), .ref (qm 10), .ref (qm 11), .ref (qm 12), .int 0, .ref (qm 13), .int 0, .ref (qm 14), .int 0, .ref (qm 15), .ref (qm 16), .ref (qm 17), .int 0, .ref (qm 18), .int 0, .ref (qm 19), .ref (qm 20), .ref (qm 21), .ref (qm 22)])), ((qm 0), .inl (ty 1, 912, .inl (kf 0))), ((qm 1), .inl (ty 3, 3, .inl (kf 0))), ((qm 2), .inl (ty 0, 800, .inl (kf 0))), ((qm 3), .inl (ty 1, 5, .inl (kf 0))), ((qm 4), .inl (ty 1, 304, .inl (kf 0))), ((qm 5), .inl (ty 3, 28, .inl (kf 0))), ((qm 6), .inl (ty 1, 28, .inl (kf 0))), ((qm 7), .inl (ty 1, 256, .inl (kf 0))), ((qm 8), .inl (ty 1, 256, .inl (kf 0))), ((qm 9), .inl (ty 3, 16, .inl (kf 0))), ((qm 10), .inl (ty 1, 28, .inl (kf 0))), ((qm 11), .inl (ty 1, 28, .inl (kf 0))), ((qm 12), .inl (ty 1, 44, .inl (kf 0))), ((qm 13), .inl (ty 1, 2, .inl (kf 0))), ((qm 14), .inl (ty 1, 9, .inl (kf 0))), ((qm 15), .inl (ty 1, 512, .inl (kf 0))), ((qm 16), .inl (ty 1, 512, .inl (kf 0))), ((qm 17), .inl (ty 1, 16, .inl (kf 0))), ((qm 18), .inl (ty 1, 2, .inl (kf 0))), ((qm 19), .inl (ty 1, 4, .inl (upd (upd (upd (upd (kf 0) 0 (-1)) 1 (-1)) 2 (-1)) 3 (-1)))), ((qm 20), .inl (ty 1, 4, .inl (kf 0))), ((qm 21), .inl (ty 2, 240, .inr (.inl (kj 0)))), ((qm 22), .inl (ty 2, 60, .inr (.inl (kj 0)))), ((qm 23), .inl (ty 1, 304, .inl (upd (upd (kf 0) 1 2) 4 (-1))))] := hD
  refine lv_aload_n hx hb dL_law_1600 rfl (lv_at hl 1 rfl) ?_
  refine lv_aload_n hx hb dL_law_1601 rfl (lv_at hl 3 rfl) ?_
  refine lv_iload_n hx hb dL_law_1602 rfl (lv_at hl 0 rfl) ?_
  refine lv_iconst (v := 1) hx hb dL_law_1603 (by decide) ?_
  refine lv_iadd hx hb dL_law_1604 ?_
  refine tp_i (v := 1) (by decide) ?_
  refine va_sld hx hb hX hbl hbA hS (by unfold vp_in; decide) dL_law_1605 ?_
  refine tp_i (v := s1) h1 ?_
  refine lv_aload_n hx hb dL_law_1606 rfl (lv_at hl 3 rfl) ?_
  refine lv_iload_n hx hb dL_law_1607 rfl (lv_at hl 0 rfl) ?_
  refine lv_iconst (v := 2) hx hb dL_law_1608 (by decide) ?_
  refine lv_iadd hx hb dL_law_1609 ?_
  refine tp_i (v := 2) (by decide) ?_
  refine va_sld hx hb hX hbl hbA hS (by unfold vp_in; decide) dL_law_1610 ?_
  refine tp_i (v := s2) h2 ?_
  refine kc_i (va_runV (As := [.int s1, .int s2]) (rest := [.int (-2000000000)]) ⟨hx, hb, hml, hown, hB⟩ (c218_X12_alley l D ty H.size m0 (qm 23) s1 s2 (.int 0) (.ref (qm 0)) (.ref (qm 1)) (.ref (qm 2)) (.int 0) (.ref (qm 3)) (.int 0) (.int 0) (.int 0) (.int 0) (.int 0) (.int 0) (.int (-1)) (.ref (qm 4)) (.ref (qm 5)) (.ref (qm 6)) (.ref (qm 7)) (.ref (qm 8)) (.ref (qm 9)) (.ref (qm 10)) (.ref (qm 11)) (.ref (qm 12)) (.int 0) (.ref (qm 13)) (.int 0) (.ref (qm 14)) (.int 0) (.ref (qm 15)) (.ref (qm 16)) (.ref (qm 17)) (.int 0) (.ref (qm 18)) (.int 0) (.ref (qm 19)) (.ref (qm 20)) (.ref (qm 21)) (.ref (qm 22))) (cwV 2 hB (bw_V mw_936 mw_937 mw_938 mw_211 mw_935) rfl rfl rfl (by decide +kernel) ⟨Nat.le_of_ble_eq_true rfl, Nat.le_of_ble_eq_true rfl⟩) (kp_V hK hP hD [0, 24] (by decide) rfl 0 rfl rfl rfl) rfl rfl hl.1 rfl (lv_room (Nat.le_of_ble_eq_true rfl)) dL_law_1611 ⟨Nat.le_of_ble_eq_true rfl, Nat.le_of_ble_eq_true rfl⟩) hP hD hS hA [0, 24] [] (wr := []) rfl rfl (by decide) (by decide) (fun r u H locs w2 hP hD hS => ?_)
  obtain ⟨rfl, rfl⟩ := w2
  have hP : va_P D vwCl [] H := hP
  have hD : va_D (fun q : Nat => s.heap.size ≤ q) [] := hD
  refine lv_icmp_eq (tgt := 1933) hx hb dL_law_1614 (by decide) (fun _ => ?_) (fun h9 => absurd (by decide) h9)
  refine lv_iinc (v := 6) (lv' := [(3, .int 6), (2, .ref m0), (1, .ref x0), (0, .ref b)]) hx hb dL_law_1933 hl (k := 0) rfl (by decide) (by decide) rfl (fun ls hl => ?_)
  refine lv_goto (tgt := 18) hx hb dL_law_1936 (by decide) ?_
  exact law_end l (Nat.le_refl 6) C0 hS (lv_sub hl [0, 3] rfl)

set_option maxHeartbeats 4000000 in
set_option maxRecDepth 100000 in
theorem br_47 {p : Program} {e : Env} {s : State} {m : MethodId} {below : List Frame} {meth : Method} {c : Code} (l : Launch) {b : Nat} {xs : Nat → Int32} (C0 : lw_At p s m meth c b 6 xs) (D : va_G) (ty : Nat → ClassId) (hK : kK D ty s) (x0 m0 : Nat) (qx qm : Nat → Nat) {H : Heap} {locs : List Loc} {ls : Array Slot} (hP : va_P D vwCl (lawW ty x0 m0 qx qm) H) (hD : va_D (fun q : Nat => s.heap.size ≤ q) (lawW ty x0 m0 qx qm)) (hS : va_S (fun q : Nat => s.heap.size ≤ q) s.heap H locs) (hl : lv_has ls 4 [(3, .int 0), (2, .ref m0), (1, .ref x0), (0, .ref b)]) :
    W p l e room_1 s m #[Value.ref b] below meth c H locs 200 10000 (lw_Z below #[Value.ref b] s) (F0 m 1619 ls []) := by
  obtain ⟨hx, hb, hr, hml, hown0, hts, hX, hbl, hlocks, hgv⟩ := id C0
  have hown : s.vm.findClass RL = some m.cls := hown0
  have hB : ∀ w ∈ bW, w.before #[Value.ref b] s = true := fun w h => hts w (bW_lw h)
  have hA : ∀ q : Nat, s.heap.size ≤ q → (fun q : Nat => s.heap.size ≤ q) q := fun _ h => h
  have hbA : ¬ (fun q : Nat => s.heap.size ≤ q) b := Nat.not_le.mpr hbl
  obtain ⟨s1, h1⟩ : ∃ y, xs 1 = y := ⟨_, rfl⟩
  obtain ⟨s2, h2⟩ : ∃ y, xs 2 = y := ⟨_, rfl⟩
  obtain ⟨s3, h3⟩ : ∃ y, xs 3 = y := ⟨_, rfl⟩
  obtain ⟨s4, h4⟩ : ∃ y, xs 4 = y := ⟨_, rfl⟩
  obtain ⟨s5, h5⟩ : ∃ y, xs 5 = y := ⟨_, rfl⟩
  refine lv_aload_n hx hb dL_law_1619 rfl (lv_at hl 2 rfl) ?_
  refine lv_aload_n hx hb dL_law_1620 rfl (lv_at hl 3 rfl) ?_
  refine lv_iload_n hx hb dL_law_1621 rfl (lv_at hl 0 rfl) ?_
  refine lv_iconst (v := 1) hx hb dL_law_1622 (by decide) ?_
  refine lv_iadd hx hb dL_law_1623 ?_
  refine tp_i (v := 1) (by decide) ?_
  refine va_sld hx hb hX hbl hbA hS (by unfold vp_in; decide) dL_law_1624 ?_
  refine tp_i (v := s1) h1 ?_
  refine lv_aload_n hx hb dL_law_1625 rfl (lv_at hl 3 rfl) ?_
  refine lv_iload_n hx hb dL_law_1626 rfl (lv_at hl 0 rfl) ?_
  refine lv_iconst (v := 2) hx hb dL_law_1627 (by decide) ?_
  refine lv_iadd hx hb dL_law_1628 ?_
  refine tp_i (v := 2) (by decide) ?_
  refine va_sld hx hb hX hbl hbA hS (by unfold vp_in; decide) dL_law_1629 ?_
  refine tp_i (v := s2) h2 ?_
  refine kc_i (va_runV (As := [.int s1, .int s2]) (rest := []) ⟨hx, hb, hml, hown, hB⟩ (c125_X11_street l D ty H.size x0 (qx 19) (qx 118) (qx 28) s1 s2 (.ref (qx 0)) (.int 0) (.ref (qx 1)) (.ref (qx 35)) (.ref (qx 36)) (.ref (qx 119)) (.ref (qx 42)) (.ref (qx 44)) (.ref (qx 45)) (.ref (qx 50)) (.int (-1)) (.int (-1)) (.int (-1)) (.int (-1)) (.ref (qx 32)) (.int 0) (.int 0) (.int 2) (.int 0) (.int (-1)) (.int 0) (.int 0) (.ref (qx 20)) (.ref (qx 21)) (.ref (qx 22)) (.ref (qx 23)) (.int 0) (.int 0) (.ref (qx 24)) (.ref (qx 117)) (.ref (qx 31)) (.ref (qx 116)) (.int 0) (.int 0) (.ref (qx 29)) (.ref (qx 30))) (cwV 2 hB (bw_V mw_940 mw_941 mw_942 mw_216 mw_939) rfl rfl rfl (by decide +kernel) ⟨Nat.le_of_ble_eq_true rfl, Nat.le_of_ble_eq_true rfl⟩) (kp_V hK hP hD [0, 20, 119, 29] (by decide) rfl 0 rfl rfl rfl) rfl rfl hl.1 rfl (lv_room (Nat.le_of_ble_eq_true rfl)) dL_law_1630 ⟨Nat.le_of_ble_eq_true rfl, Nat.le_of_ble_eq_true rfl⟩) hP hD hS hA [0, 20, 119, 29] [122, 123, 124, 125, 126, 127, 128, 129, 130, 131, 132, 133, 134, 135, 136, 137, 138, 139, 140, 141, 142, 143, 144, 145, 146] (wr := [(m0, .inr (12, [.int 0, .ref (qm 23), .ref (qm 0), .ref (qm 1), .ref (qm 2), .int 0, .ref (qm 3), .int 0, .int 0, .int 0, .int 0, .int 0, .int 0, .int (-1), .ref (qm 4), .ref (qm 5), .ref (qm 6), .ref (qm 7), .ref (qm 8), .ref (qm 9), .ref (qm 10), .ref (qm 11), .ref (qm 12), .int 0, .ref (qm 13), .int 0, .ref (qm 14), .int 0, .ref (qm 15), .ref (qm 16), .ref (qm 17), .int 0, .ref (qm 18), .int 0, .ref (qm 19), .ref (qm 20), .ref (qm 21), .ref (qm 22)])), ((qm 0), .inl (ty 1, 912, .inl (kf 0))), ((qm 1), .inl (ty 3, 3, .inl (kf 0))), ((qm 2), .inl (ty 0, 800, .inl (kf 0))), ((qm 3), .inl (ty 1, 5, .inl (kf 0))), ((qm 4), .inl (ty 1, 304, .inl (kf 0))), ((qm 5), .inl (ty 3, 28, .inl (kf 0))), ((qm 6), .inl (ty 1, 28, .inl (kf 0))), ((qm 7), .inl (ty 1, 256, .inl (kf 0))), ((qm 8), .inl (ty 1, 256, .inl (kf 0))), ((qm 9), .inl (ty 3, 16, .inl (kf 0))), ((qm 10), .inl (ty 1, 28, .inl (kf 0))), ((qm 11), .inl (ty 1, 28, .inl (kf 0))), ((qm 12), .inl (ty 1, 44, .inl (kf 0))), ((qm 13), .inl (ty 1, 2, .inl (kf 0))), ((qm 14), .inl (ty 1, 9, .inl (kf 0))), ((qm 15), .inl (ty 1, 512, .inl (kf 0))), ((qm 16), .inl (ty 1, 512, .inl (kf 0))), ((qm 17), .inl (ty 1, 16, .inl (kf 0))), ((qm 18), .inl (ty 1, 2, .inl (kf 0))), ((qm 19), .inl (ty 1, 4, .inl (upd (upd (upd (upd (kf 0) 0 (-1)) 1 (-1)) 2 (-1)) 3 (-1)))), ((qm 20), .inl (ty 1, 4, .inl (kf 0))), ((qm 21), .inl (ty 2, 240, .inr (.inl (kj 0)))), ((qm 22), .inl (ty 2, 60, .inr (.inl (kj 0)))), ((qm 23), .inl (ty 1, 304, .inl (upd (upd (kf 0) 1 2) 4 (-1))))]) rfl rfl (by decide) (by decide) (fun r u H locs w1 hP hD hS => ?_)
  obtain ⟨rfl, rfl⟩ := w1
  have hP : va_P D vwCl [(m0, .inr (12, [.int 0, .ref (qm 23), .ref (qm 0), .ref (qm 1), .ref (qm 2), .int 0, .ref (qm 3), .int 0, .int 0, .int 0, .int 0, .int 0, .int 0, .int (-1), .ref (qm 4), .ref (qm 5), .ref (qm 6), .ref (qm 7), .ref (qm 8), .ref (qm 9), .ref (qm 10), .ref (qm 11), .ref (qm 12), .int 0, .ref (qm 13), .int 0, .ref (qm 14), .int 0, .ref (qm 15), .ref (qm 16), .ref (qm 17), .int 0, .ref (qm 18), .int 0, .ref (qm 19), .ref (qm 20), .ref (qm 21), .ref (qm 22)])), ((qm 0), .inl (ty 1, 912, .inl (kf 0))), ((qm 1), .inl (ty 3, 3, .inl (kf 0))), ((qm 2), .inl (ty 0, 800, .inl (kf 0))), ((qm 3), .inl (ty 1, 5, .inl (kf 0))), ((qm 4), .inl (ty 1, 304, .inl (kf 0))), ((qm 5), .inl (ty 3, 28, .inl (kf 0))), ((qm 6), .inl (ty 1, 28, .inl (kf 0))), ((qm 7), .inl (ty 1, 256, .inl (kf 0))), ((qm 8), .inl (ty 1, 256, .inl (kf 0))), ((qm 9), .inl (ty 3, 16, .inl (kf 0))), ((qm 10), .inl (ty 1, 28, .inl (kf 0))), ((qm 11), .inl (ty 1, 28, .inl (kf 0))), ((qm 12), .inl (ty 1, 44, .inl (kf 0))), ((qm 13), .inl (ty 1, 2, .inl (kf 0))), ((qm 14), .inl (ty 1, 9, .inl (kf 0))), ((qm 15), .inl (ty 1, 512, .inl (kf 0))), ((qm 16), .inl (ty 1, 512, .inl (kf 0))), ((qm 17), .inl (ty 1, 16, .inl (kf 0))), ((qm 18), .inl (ty 1, 2, .inl (kf 0))), ((qm 19), .inl (ty 1, 4, .inl (upd (upd (upd (upd (kf 0) 0 (-1)) 1 (-1)) 2 (-1)) 3 (-1)))), ((qm 20), .inl (ty 1, 4, .inl (kf 0))), ((qm 21), .inl (ty 2, 240, .inr (.inl (kj 0)))), ((qm 22), .inl (ty 2, 60, .inr (.inl (kj 0)))), ((qm 23), .inl (ty 1, 304, .inl (upd (upd (kf 0) 1 2) 4 (-1))))] H := hP
  have hD : va_D (fun q : Nat => s.heap.size ≤ q) [(m0, .inr (12, [.int 0, .ref (qm 23), .ref (qm 0), .ref (qm 1), .ref (qm 2), .int 0, .ref (qm 3), .int 0, .int 0, .int 0, .int 0, .int 0, .int 0, .int (-1), .ref (qm 4), .ref (qm 5), .ref (qm 6), .ref (qm 7), .ref (qm 8), .ref (qm 9), .ref (qm 10), .ref (qm 11), .ref (qm 12), .int 0, .ref (qm 13), .int 0, .ref (qm 14), .int 0, .ref (qm 15), .ref (qm 16), .ref (qm 17), .int 0, .ref (qm 18), .int 0, .ref (qm 19), .ref (qm 20), .ref (qm 21), .ref (qm 22)])), ((qm 0), .inl (ty 1, 912, .inl (kf 0))), ((qm 1), .inl (ty 3, 3, .inl (kf 0))), ((qm 2), .inl (ty 0, 800, .inl (kf 0))), ((qm 3), .inl (ty 1, 5, .inl (kf 0))), ((qm 4), .inl (ty 1, 304, .inl (kf 0))), ((qm 5), .inl (ty 3, 28, .inl (kf 0))), ((qm 6), .inl (ty 1, 28, .inl (kf 0))), ((qm 7), .inl (ty 1, 256, .inl (kf 0))), ((qm 8), .inl (ty 1, 256, .inl (kf 0))), ((qm 9), .inl (ty 3, 16, .inl (kf 0))), ((qm 10), .inl (ty 1, 28, .inl (kf 0))), ((qm 11), .inl (ty 1, 28, .inl (kf 0))), ((qm 12), .inl (ty 1, 44, .inl (kf 0))), ((qm 13), .inl (ty 1, 2, .inl (kf 0))), ((qm 14), .inl (ty 1, 9, .inl (kf 0))), ((qm 15), .inl (ty 1, 512, .inl (kf 0))), ((qm 16), .inl (ty 1, 512, .inl (kf 0))), ((qm 17), .inl (ty 1, 16, .inl (kf 0))), ((qm 18), .inl (ty 1, 2, .inl (kf 0))), ((qm 19), .inl (ty 1, 4, .inl (upd (upd (upd (upd (kf 0) 0 (-1)) 1 (-1)) 2 (-1)) 3 (-1)))), ((qm 20), .inl (ty 1, 4, .inl (kf 0))), ((qm 21), .inl (ty 2, 240, .inr (.inl (kj 0)))), ((qm 22), .inl (ty 2, 60, .inr (.inl (kj 0)))), ((qm 23), .inl (ty 1, 304, .inl (upd (upd (kf 0) 1 2) 4 (-1))))] := hD
  refine lv_aload_n hx hb dL_law_1633 rfl (lv_at hl 1 rfl) ?_
  refine lv_aload_n hx hb dL_law_1634 rfl (lv_at hl 3 rfl) ?_
  refine lv_iload_n hx hb dL_law_1635 rfl (lv_at hl 0 rfl) ?_
  refine lv_iconst (v := 1) hx hb dL_law_1636 (by decide) ?_
  refine lv_iadd hx hb dL_law_1637 ?_
  refine tp_i (v := 1) (by decide) ?_
  refine va_sld hx hb hX hbl hbA hS (by unfold vp_in; decide) dL_law_1638 ?_
  refine tp_i (v := s1) h1 ?_
  refine lv_aload_n hx hb dL_law_1639 rfl (lv_at hl 3 rfl) ?_
  refine lv_iload_n hx hb dL_law_1640 rfl (lv_at hl 0 rfl) ?_
  refine lv_iconst (v := 2) hx hb dL_law_1641 (by decide) ?_
  refine lv_iadd hx hb dL_law_1642 ?_
  refine tp_i (v := 2) (by decide) ?_
  refine va_sld hx hb hX hbl hbA hS (by unfold vp_in; decide) dL_law_1643 ?_
  refine tp_i (v := s2) h2 ?_
  refine kc_i (va_runV (As := [.int s1, .int s2]) (rest := [.int (-1)]) ⟨hx, hb, hml, hown, hB⟩ (c219_X12_street l D ty H.size m0 (qm 23) s1 s2 (.int 0) (.ref (qm 0)) (.ref (qm 1)) (.ref (qm 2)) (.int 0) (.ref (qm 3)) (.int 0) (.int 0) (.int 0) (.int 0) (.int 0) (.int 0) (.int (-1)) (.ref (qm 4)) (.ref (qm 5)) (.ref (qm 6)) (.ref (qm 7)) (.ref (qm 8)) (.ref (qm 9)) (.ref (qm 10)) (.ref (qm 11)) (.ref (qm 12)) (.int 0) (.ref (qm 13)) (.int 0) (.ref (qm 14)) (.int 0) (.ref (qm 15)) (.ref (qm 16)) (.ref (qm 17)) (.int 0) (.ref (qm 18)) (.int 0) (.ref (qm 19)) (.ref (qm 20)) (.ref (qm 21)) (.ref (qm 22))) (cwV 2 hB (bw_V mw_944 mw_945 mw_946 mw_211 mw_943) rfl rfl rfl (by decide +kernel) ⟨Nat.le_of_ble_eq_true rfl, Nat.le_of_ble_eq_true rfl⟩) (kp_V hK hP hD [0, 24] (by decide) rfl 0 rfl rfl rfl) rfl rfl hl.1 rfl (lv_room (Nat.le_of_ble_eq_true rfl)) dL_law_1644 ⟨Nat.le_of_ble_eq_true rfl, Nat.le_of_ble_eq_true rfl⟩) hP hD hS hA [0, 24] [] (wr := []) rfl rfl (by decide) (by decide) (fun r u H locs w2 hP hD hS => ?_)
  obtain ⟨rfl, rfl⟩ := w2
  have hP : va_P D vwCl [] H := hP
  have hD : va_D (fun q : Nat => s.heap.size ≤ q) [] := hD
  refine lv_icmp_eq (tgt := 1933) hx hb dL_law_1647 (by decide) (fun _ => ?_) (fun h9 => absurd (by decide) h9)
  refine lv_iinc (v := 6) (lv' := [(3, .int 6), (2, .ref m0), (1, .ref x0), (0, .ref b)]) hx hb dL_law_1933 hl (k := 0) rfl (by decide) (by decide) rfl (fun ls hl => ?_)
  refine lv_goto (tgt := 18) hx hb dL_law_1936 (by decide) ?_
  exact law_end l (Nat.le_refl 6) C0 hS (lv_sub hl [0, 3] rfl)

set_option maxHeartbeats 4000000 in
set_option maxRecDepth 100000 in
theorem br_48 {p : Program} {e : Env} {s : State} {m : MethodId} {below : List Frame} {meth : Method} {c : Code} (l : Launch) {b : Nat} {xs : Nat → Int32} (C0 : lw_At p s m meth c b 6 xs) (D : va_G) (ty : Nat → ClassId) (hK : kK D ty s) (x0 m0 : Nat) (qx qm : Nat → Nat) {H : Heap} {locs : List Loc} {ls : Array Slot} (hP : va_P D vwCl (lawW ty x0 m0 qx qm) H) (hD : va_D (fun q : Nat => s.heap.size ≤ q) (lawW ty x0 m0 qx qm)) (hS : va_S (fun q : Nat => s.heap.size ≤ q) s.heap H locs) (hl : lv_has ls 4 [(3, .int 0), (2, .ref m0), (1, .ref x0), (0, .ref b)]) :
    W p l e room_1 s m #[Value.ref b] below meth c H locs 200 10000 (lw_Z below #[Value.ref b] s) (F0 m 1652 ls []) := by
  obtain ⟨hx, hb, hr, hml, hown0, hts, hX, hbl, hlocks, hgv⟩ := id C0
  have hown : s.vm.findClass RL = some m.cls := hown0
  have hB : ∀ w ∈ bW, w.before #[Value.ref b] s = true := fun w h => hts w (bW_lw h)
  have hA : ∀ q : Nat, s.heap.size ≤ q → (fun q : Nat => s.heap.size ≤ q) q := fun _ h => h
  have hbA : ¬ (fun q : Nat => s.heap.size ≤ q) b := Nat.not_le.mpr hbl
  obtain ⟨s1, h1⟩ : ∃ y, xs 1 = y := ⟨_, rfl⟩
  obtain ⟨s2, h2⟩ : ∃ y, xs 2 = y := ⟨_, rfl⟩
  obtain ⟨s3, h3⟩ : ∃ y, xs 3 = y := ⟨_, rfl⟩
  obtain ⟨s4, h4⟩ : ∃ y, xs 4 = y := ⟨_, rfl⟩
  obtain ⟨s5, h5⟩ : ∃ y, xs 5 = y := ⟨_, rfl⟩
  refine lv_aload_n hx hb dL_law_1652 rfl (lv_at hl 2 rfl) ?_
  refine lv_aload_n hx hb dL_law_1653 rfl (lv_at hl 3 rfl) ?_
  refine lv_iload_n hx hb dL_law_1654 rfl (lv_at hl 0 rfl) ?_
  refine lv_iconst (v := 1) hx hb dL_law_1655 (by decide) ?_
  refine lv_iadd hx hb dL_law_1656 ?_
  refine tp_i (v := 1) (by decide) ?_
  refine va_sld hx hb hX hbl hbA hS (by unfold vp_in; decide) dL_law_1657 ?_
  refine tp_i (v := s1) h1 ?_
  refine lv_aload_n hx hb dL_law_1658 rfl (lv_at hl 3 rfl) ?_
  refine lv_iload_n hx hb dL_law_1659 rfl (lv_at hl 0 rfl) ?_
  refine lv_iconst (v := 2) hx hb dL_law_1660 (by decide) ?_
  refine lv_iadd hx hb dL_law_1661 ?_
  refine tp_i (v := 2) (by decide) ?_
  refine va_sld hx hb hX hbl hbA hS (by unfold vp_in; decide) dL_law_1662 ?_
  refine tp_i (v := s2) h2 ?_
  refine kc_i (va_runV (As := [.int s1, .int s2]) (rest := []) ⟨hx, hb, hml, hown, hB⟩ (c126_X11_journey l D ty H.size x0 (qx 19) (qx 118) (qx 24) s1 s2 (.ref (qx 0)) (.int 0) (.ref (qx 1)) (.ref (qx 35)) (.ref (qx 36)) (.ref (qx 119)) (.ref (qx 42)) (.ref (qx 44)) (.ref (qx 45)) (.ref (qx 50)) (.int (-1)) (.int (-1)) (.int (-1)) (.int (-1)) (.ref (qx 32)) (.int 0) (.int 0) (.int 2) (.int 0) (.int (-1)) (.int 0) (.int 0) (.ref (qx 20)) (.ref (qx 21)) (.ref (qx 22)) (.ref (qx 23)) (.int 0) (.int 0) (.ref (qx 28)) (.ref (qx 117)) (.ref (qx 31)) (.ref (qx 116)) (.int 0) (.ref (qx 25)) (.ref (qx 26)) (.ref (qx 27))) (cwV 2 hB (bw_V mw_948 mw_949 mw_950 mw_216 mw_947) rfl rfl rfl (by decide +kernel) ⟨Nat.le_of_ble_eq_true rfl, Nat.le_of_ble_eq_true rfl⟩) (kp_V hK hP hD [0, 20, 119, 25] (by decide) rfl 0 rfl rfl rfl) rfl rfl hl.1 rfl (lv_room (Nat.le_of_ble_eq_true rfl)) dL_law_1663 ⟨Nat.le_of_ble_eq_true rfl, Nat.le_of_ble_eq_true rfl⟩) hP hD hS hA [0, 20, 119, 25] [122, 123, 124, 125, 126, 127, 128, 129, 130, 131, 132, 133, 134, 135, 136, 137, 138, 139, 140, 141, 142, 143, 144, 145, 146] (wr := [(m0, .inr (12, [.int 0, .ref (qm 23), .ref (qm 0), .ref (qm 1), .ref (qm 2), .int 0, .ref (qm 3), .int 0, .int 0, .int 0, .int 0, .int 0, .int 0, .int (-1), .ref (qm 4), .ref (qm 5), .ref (qm 6), .ref (qm 7), .ref (qm 8), .ref (qm 9), .ref (qm 10), .ref (qm 11), .ref (qm 12), .int 0, .ref (qm 13), .int 0, .ref (qm 14), .int 0, .ref (qm 15), .ref (qm 16), .ref (qm 17), .int 0, .ref (qm 18), .int 0, .ref (qm 19), .ref (qm 20), .ref (qm 21), .ref (qm 22)])), ((qm 0), .inl (ty 1, 912, .inl (kf 0))), ((qm 1), .inl (ty 3, 3, .inl (kf 0))), ((qm 2), .inl (ty 0, 800, .inl (kf 0))), ((qm 3), .inl (ty 1, 5, .inl (kf 0))), ((qm 4), .inl (ty 1, 304, .inl (kf 0))), ((qm 5), .inl (ty 3, 28, .inl (kf 0))), ((qm 6), .inl (ty 1, 28, .inl (kf 0))), ((qm 7), .inl (ty 1, 256, .inl (kf 0))), ((qm 8), .inl (ty 1, 256, .inl (kf 0))), ((qm 9), .inl (ty 3, 16, .inl (kf 0))), ((qm 10), .inl (ty 1, 28, .inl (kf 0))), ((qm 11), .inl (ty 1, 28, .inl (kf 0))), ((qm 12), .inl (ty 1, 44, .inl (kf 0))), ((qm 13), .inl (ty 1, 2, .inl (kf 0))), ((qm 14), .inl (ty 1, 9, .inl (kf 0))), ((qm 15), .inl (ty 1, 512, .inl (kf 0))), ((qm 16), .inl (ty 1, 512, .inl (kf 0))), ((qm 17), .inl (ty 1, 16, .inl (kf 0))), ((qm 18), .inl (ty 1, 2, .inl (kf 0))), ((qm 19), .inl (ty 1, 4, .inl (upd (upd (upd (upd (kf 0) 0 (-1)) 1 (-1)) 2 (-1)) 3 (-1)))), ((qm 20), .inl (ty 1, 4, .inl (kf 0))), ((qm 21), .inl (ty 2, 240, .inr (.inl (kj 0)))), ((qm 22), .inl (ty 2, 60, .inr (.inl (kj 0)))), ((qm 23), .inl (ty 1, 304, .inl (upd (upd (kf 0) 1 2) 4 (-1))))]) rfl rfl (by decide) (by decide) (fun r u H locs w1 hP hD hS => ?_)
  obtain ⟨rfl, rfl⟩ := w1
  have hP : va_P D vwCl [(m0, .inr (12, [.int 0, .ref (qm 23), .ref (qm 0), .ref (qm 1), .ref (qm 2), .int 0, .ref (qm 3), .int 0, .int 0, .int 0, .int 0, .int 0, .int 0, .int (-1), .ref (qm 4), .ref (qm 5), .ref (qm 6), .ref (qm 7), .ref (qm 8), .ref (qm 9), .ref (qm 10), .ref (qm 11), .ref (qm 12), .int 0, .ref (qm 13), .int 0, .ref (qm 14), .int 0, .ref (qm 15), .ref (qm 16), .ref (qm 17), .int 0, .ref (qm 18), .int 0, .ref (qm 19), .ref (qm 20), .ref (qm 21), .ref (qm 22)])), ((qm 0), .inl (ty 1, 912, .inl (kf 0))), ((qm 1), .inl (ty 3, 3, .inl (kf 0))), ((qm 2), .inl (ty 0, 800, .inl (kf 0))), ((qm 3), .inl (ty 1, 5, .inl (kf 0))), ((qm 4), .inl (ty 1, 304, .inl (kf 0))), ((qm 5), .inl (ty 3, 28, .inl (kf 0))), ((qm 6), .inl (ty 1, 28, .inl (kf 0))), ((qm 7), .inl (ty 1, 256, .inl (kf 0))), ((qm 8), .inl (ty 1, 256, .inl (kf 0))), ((qm 9), .inl (ty 3, 16, .inl (kf 0))), ((qm 10), .inl (ty 1, 28, .inl (kf 0))), ((qm 11), .inl (ty 1, 28, .inl (kf 0))), ((qm 12), .inl (ty 1, 44, .inl (kf 0))), ((qm 13), .inl (ty 1, 2, .inl (kf 0))), ((qm 14), .inl (ty 1, 9, .inl (kf 0))), ((qm 15), .inl (ty 1, 512, .inl (kf 0))), ((qm 16), .inl (ty 1, 512, .inl (kf 0))), ((qm 17), .inl (ty 1, 16, .inl (kf 0))), ((qm 18), .inl (ty 1, 2, .inl (kf 0))), ((qm 19), .inl (ty 1, 4, .inl (upd (upd (upd (upd (kf 0) 0 (-1)) 1 (-1)) 2 (-1)) 3 (-1)))), ((qm 20), .inl (ty 1, 4, .inl (kf 0))), ((qm 21), .inl (ty 2, 240, .inr (.inl (kj 0)))), ((qm 22), .inl (ty 2, 60, .inr (.inl (kj 0)))), ((qm 23), .inl (ty 1, 304, .inl (upd (upd (kf 0) 1 2) 4 (-1))))] H := hP
  have hD : va_D (fun q : Nat => s.heap.size ≤ q) [(m0, .inr (12, [.int 0, .ref (qm 23), .ref (qm 0), .ref (qm 1), .ref (qm 2), .int 0, .ref (qm 3), .int 0, .int 0, .int 0, .int 0, .int 0, .int 0, .int (-1), .ref (qm 4), .ref (qm 5), .ref (qm 6), .ref (qm 7), .ref (qm 8), .ref (qm 9), .ref (qm 10), .ref (qm 11), .ref (qm 12), .int 0, .ref (qm 13), .int 0, .ref (qm 14), .int 0, .ref (qm 15), .ref (qm 16), .ref (qm 17), .int 0, .ref (qm 18), .int 0, .ref (qm 19), .ref (qm 20), .ref (qm 21), .ref (qm 22)])), ((qm 0), .inl (ty 1, 912, .inl (kf 0))), ((qm 1), .inl (ty 3, 3, .inl (kf 0))), ((qm 2), .inl (ty 0, 800, .inl (kf 0))), ((qm 3), .inl (ty 1, 5, .inl (kf 0))), ((qm 4), .inl (ty 1, 304, .inl (kf 0))), ((qm 5), .inl (ty 3, 28, .inl (kf 0))), ((qm 6), .inl (ty 1, 28, .inl (kf 0))), ((qm 7), .inl (ty 1, 256, .inl (kf 0))), ((qm 8), .inl (ty 1, 256, .inl (kf 0))), ((qm 9), .inl (ty 3, 16, .inl (kf 0))), ((qm 10), .inl (ty 1, 28, .inl (kf 0))), ((qm 11), .inl (ty 1, 28, .inl (kf 0))), ((qm 12), .inl (ty 1, 44, .inl (kf 0))), ((qm 13), .inl (ty 1, 2, .inl (kf 0))), ((qm 14), .inl (ty 1, 9, .inl (kf 0))), ((qm 15), .inl (ty 1, 512, .inl (kf 0))), ((qm 16), .inl (ty 1, 512, .inl (kf 0))), ((qm 17), .inl (ty 1, 16, .inl (kf 0))), ((qm 18), .inl (ty 1, 2, .inl (kf 0))), ((qm 19), .inl (ty 1, 4, .inl (upd (upd (upd (upd (kf 0) 0 (-1)) 1 (-1)) 2 (-1)) 3 (-1)))), ((qm 20), .inl (ty 1, 4, .inl (kf 0))), ((qm 21), .inl (ty 2, 240, .inr (.inl (kj 0)))), ((qm 22), .inl (ty 2, 60, .inr (.inl (kj 0)))), ((qm 23), .inl (ty 1, 304, .inl (upd (upd (kf 0) 1 2) 4 (-1))))] := hD
  refine lv_aload_n hx hb dL_law_1666 rfl (lv_at hl 1 rfl) ?_
  refine lv_aload_n hx hb dL_law_1667 rfl (lv_at hl 3 rfl) ?_
  refine lv_iload_n hx hb dL_law_1668 rfl (lv_at hl 0 rfl) ?_
  refine lv_iconst (v := 1) hx hb dL_law_1669 (by decide) ?_
  refine lv_iadd hx hb dL_law_1670 ?_
  refine tp_i (v := 1) (by decide) ?_
  refine va_sld hx hb hX hbl hbA hS (by unfold vp_in; decide) dL_law_1671 ?_
  refine tp_i (v := s1) h1 ?_
  refine lv_aload_n hx hb dL_law_1672 rfl (lv_at hl 3 rfl) ?_
  refine lv_iload_n hx hb dL_law_1673 rfl (lv_at hl 0 rfl) ?_
  refine lv_iconst (v := 2) hx hb dL_law_1674 (by decide) ?_
  refine lv_iadd hx hb dL_law_1675 ?_
  refine tp_i (v := 2) (by decide) ?_
  refine va_sld hx hb hX hbl hbA hS (by unfold vp_in; decide) dL_law_1676 ?_
  refine tp_i (v := s2) h2 ?_
  refine kc_i (va_runV (As := [.int s1, .int s2]) (rest := [.int (-2000000000)]) ⟨hx, hb, hml, hown, hB⟩ (c220_X12_journey l D ty H.size m0 (qm 23) s1 s2 (.int 0) (.ref (qm 0)) (.ref (qm 1)) (.ref (qm 2)) (.int 0) (.ref (qm 3)) (.int 0) (.int 0) (.int 0) (.int 0) (.int 0) (.int 0) (.int (-1)) (.ref (qm 4)) (.ref (qm 5)) (.ref (qm 6)) (.ref (qm 7)) (.ref (qm 8)) (.ref (qm 9)) (.ref (qm 10)) (.ref (qm 11)) (.ref (qm 12)) (.int 0) (.ref (qm 13)) (.int 0) (.ref (qm 14)) (.int 0) (.ref (qm 15)) (.ref (qm 16)) (.ref (qm 17)) (.int 0) (.ref (qm 18)) (.int 0) (.ref (qm 19)) (.ref (qm 20)) (.ref (qm 21)) (.ref (qm 22))) (cwV 2 hB (bw_V mw_952 mw_953 mw_954 mw_211 mw_951) rfl rfl rfl (by decide +kernel) ⟨Nat.le_of_ble_eq_true rfl, Nat.le_of_ble_eq_true rfl⟩) (kp_V hK hP hD [0, 24] (by decide) rfl 0 rfl rfl rfl) rfl rfl hl.1 rfl (lv_room (Nat.le_of_ble_eq_true rfl)) dL_law_1677 ⟨Nat.le_of_ble_eq_true rfl, Nat.le_of_ble_eq_true rfl⟩) hP hD hS hA [0, 24] [] (wr := []) rfl rfl (by decide) (by decide) (fun r u H locs w2 hP hD hS => ?_)
  obtain ⟨rfl, rfl⟩ := w2
  have hP : va_P D vwCl [] H := hP
  have hD : va_D (fun q : Nat => s.heap.size ≤ q) [] := hD
  refine lv_icmp_eq (tgt := 1933) hx hb dL_law_1680 (by decide) (fun _ => ?_) (fun h9 => absurd (by decide) h9)
  refine lv_iinc (v := 6) (lv' := [(3, .int 6), (2, .ref m0), (1, .ref x0), (0, .ref b)]) hx hb dL_law_1933 hl (k := 0) rfl (by decide) (by decide) rfl (fun ls hl => ?_)
  refine lv_goto (tgt := 18) hx hb dL_law_1936 (by decide) ?_
  exact law_end l (Nat.le_refl 6) C0 hS (lv_sub hl [0, 3] rfl)

set_option maxHeartbeats 4000000 in
set_option maxRecDepth 100000 in
theorem br_49 {p : Program} {e : Env} {s : State} {m : MethodId} {below : List Frame} {meth : Method} {c : Code} (l : Launch) {b : Nat} {xs : Nat → Int32} (C0 : lw_At p s m meth c b 6 xs) (D : va_G) (ty : Nat → ClassId) (hK : kK D ty s) (x0 m0 : Nat) (qx qm : Nat → Nat) {H : Heap} {locs : List Loc} {ls : Array Slot} (hP : va_P D vwCl (lawW ty x0 m0 qx qm) H) (hD : va_D (fun q : Nat => s.heap.size ≤ q) (lawW ty x0 m0 qx qm)) (hS : va_S (fun q : Nat => s.heap.size ≤ q) s.heap H locs) (hl : lv_has ls 4 [(3, .int 0), (2, .ref m0), (1, .ref x0), (0, .ref b)]) :
    W p l e room_1 s m #[Value.ref b] below meth c H locs 200 10000 (lw_Z below #[Value.ref b] s) (F0 m 1685 ls []) := by
  obtain ⟨hx, hb, hr, hml, hown0, hts, hX, hbl, hlocks, hgv⟩ := id C0
  have hown : s.vm.findClass RL = some m.cls := hown0
  have hB : ∀ w ∈ bW, w.before #[Value.ref b] s = true := fun w h => hts w (bW_lw h)
  have hA : ∀ q : Nat, s.heap.size ≤ q → (fun q : Nat => s.heap.size ≤ q) q := fun _ h => h
  have hbA : ¬ (fun q : Nat => s.heap.size ≤ q) b := Nat.not_le.mpr hbl
  obtain ⟨s1, h1⟩ : ∃ y, xs 1 = y := ⟨_, rfl⟩
  obtain ⟨s2, h2⟩ : ∃ y, xs 2 = y := ⟨_, rfl⟩
  obtain ⟨s3, h3⟩ : ∃ y, xs 3 = y := ⟨_, rfl⟩
  obtain ⟨s4, h4⟩ : ∃ y, xs 4 = y := ⟨_, rfl⟩
  obtain ⟨s5, h5⟩ : ∃ y, xs 5 = y := ⟨_, rfl⟩
  refine lv_aload_n hx hb dL_law_1685 rfl (lv_at hl 2 rfl) ?_
  refine lv_aload_n hx hb dL_law_1686 rfl (lv_at hl 3 rfl) ?_
  refine lv_iload_n hx hb dL_law_1687 rfl (lv_at hl 0 rfl) ?_
  refine lv_iconst (v := 1) hx hb dL_law_1688 (by decide) ?_
  refine lv_iadd hx hb dL_law_1689 ?_
  refine tp_i (v := 1) (by decide) ?_
  refine va_sld hx hb hX hbl hbA hS (by unfold vp_in; decide) dL_law_1690 ?_
  refine tp_i (v := s1) h1 ?_
  refine kc_i (va_runV (As := [.int s1]) (rest := []) ⟨hx, hb, hml, hown, hB⟩ (c127_X11_count l D ty H.size x0 (qx 19) (qx 118) (qx 24) (qx 32) (qx 36) (qx 108) (qx 110) (qx 112) (qx 114) (qx 28) s1 (.ref (qx 0)) (.ref (qx 1)) (.ref (qx 35)) (.ref (qx 119)) (.ref (qx 42)) (.ref (qx 44)) (.ref (qx 45)) (.ref (qx 50)) (.int (-1)) (.int (-1)) (.int (-1)) (.int (-1)) (.int 0) (.int 0) (.ref (qx 20)) (.ref (qx 21)) (.ref (qx 22)) (.ref (qx 23)) (.int 0) (.ref (qx 117)) (.ref (qx 31)) (.ref (qx 116)) (.int 0) (.ref (qx 25)) (.ref (qx 26)) (.ref (qx 27)) (qx 33) (qx 34) (.int 0) (.ref (qx 109)) (.int 0) (.ref (qx 111)) (.int 0) (.ref (qx 113)) (.int 0) (.ref (qx 115)) (.int 0) (.ref (qx 29)) (.ref (qx 30))) (cwV 1 hB (bw_V mw_956 mw_957 mw_958 mw_216 mw_955) rfl rfl rfl (by decide +kernel) ⟨Nat.le_of_ble_eq_true rfl, Nat.le_of_ble_eq_true rfl⟩) (kp_V hK hP hD [0, 20, 119, 25, 33, 37, 109, 111, 113, 115, 29] (by decide) rfl 0 rfl rfl rfl) rfl rfl hl.1 rfl (lv_room (Nat.le_of_ble_eq_true rfl)) dL_law_1691 ⟨Nat.le_of_ble_eq_true rfl, Nat.le_of_ble_eq_true rfl⟩) hP hD hS hA [0, 20, 119, 25, 33, 37, 109, 111, 113, 115, 29] [122, 123, 124, 125, 126, 127, 128, 129, 130, 131, 132, 133, 134, 135, 136, 137, 138, 139, 140, 141, 142, 143, 144, 145, 146] (wr := [(m0, .inr (12, [.int 0, .ref (qm 23), .ref (qm 0), .ref (qm 1), .ref (qm 2), .int 0, .ref (qm 3), .int 0, .int 0, .int 0, .int 0, .int 0, .int 0, .int (-1), .ref (qm 4), .ref (qm 5), .ref (qm 6), .ref (qm 7), .ref (qm 8), .ref (qm 9), .ref (qm 10), .ref (qm 11), .ref (qm 12), .int 0, .ref (qm 13), .int 0, .ref (qm 14), .int 0, .ref (qm 15), .ref (qm 16), .ref (qm 17), .int 0, .ref (qm 18), .int 0, .ref (qm 19), .ref (qm 20), .ref (qm 21), .ref (qm 22)])), ((qm 0), .inl (ty 1, 912, .inl (kf 0))), ((qm 1), .inl (ty 3, 3, .inl (kf 0))), ((qm 2), .inl (ty 0, 800, .inl (kf 0))), ((qm 3), .inl (ty 1, 5, .inl (kf 0))), ((qm 4), .inl (ty 1, 304, .inl (kf 0))), ((qm 5), .inl (ty 3, 28, .inl (kf 0))), ((qm 6), .inl (ty 1, 28, .inl (kf 0))), ((qm 7), .inl (ty 1, 256, .inl (kf 0))), ((qm 8), .inl (ty 1, 256, .inl (kf 0))), ((qm 9), .inl (ty 3, 16, .inl (kf 0))), ((qm 10), .inl (ty 1, 28, .inl (kf 0))), ((qm 11), .inl (ty 1, 28, .inl (kf 0))), ((qm 12), .inl (ty 1, 44, .inl (kf 0))), ((qm 13), .inl (ty 1, 2, .inl (kf 0))), ((qm 14), .inl (ty 1, 9, .inl (kf 0))), ((qm 15), .inl (ty 1, 512, .inl (kf 0))), ((qm 16), .inl (ty 1, 512, .inl (kf 0))), ((qm 17), .inl (ty 1, 16, .inl (kf 0))), ((qm 18), .inl (ty 1, 2, .inl (kf 0))), ((qm 19), .inl (ty 1, 4, .inl (upd (upd (upd (upd (kf 0) 0 (-1)) 1 (-1)) 2 (-1)) 3 (-1)))), ((qm 20), .inl (ty 1, 4, .inl (kf 0))), ((qm 21), .inl (ty 2, 240, .inr (.inl (kj 0)))), ((qm 22), .inl (ty 2, 60, .inr (.inl (kj 0)))), ((qm 23), .inl (ty 1, 304, .inl (upd (upd (kf 0) 1 2) 4 (-1))))]) rfl rfl (by decide) (by decide) (fun r u H locs w1 hP hD hS => ?_)
  rcases w1 with ⟨c2, rfl, rfl⟩ | ⟨c3, rfl, rfl⟩ | ⟨c4, rfl, rfl⟩
  · have hP : va_P D vwCl [(m0, .inr (12, [.int 0, .ref (qm 23), .ref (qm 0), .ref (qm 1), .ref (qm 2), .int 0, .ref (qm 3), .int 0, .int 0, .int 0, .int 0, .int 0, .int 0, .int (-1), .ref (qm 4), .ref (qm 5), .ref (qm 6), .ref (qm 7), .ref (qm 8), .ref (qm 9), .ref (qm 10), .ref (qm 11), .ref (qm 12), .int 0, .ref (qm 13), .int 0, .ref (qm 14), .int 0, .ref (qm 15), .ref (qm 16), .ref (qm 17), .int 0, .ref (qm 18), .int 0, .ref (qm 19), .ref (qm 20), .ref (qm 21), .ref (qm 22)])), ((qm 0), .inl (ty 1, 912, .inl (kf 0))), ((qm 1), .inl (ty 3, 3, .inl (kf 0))), ((qm 2), .inl (ty 0, 800, .inl (kf 0))), ((qm 3), .inl (ty 1, 5, .inl (kf 0))), ((qm 4), .inl (ty 1, 304, .inl (kf 0))), ((qm 5), .inl (ty 3, 28, .inl (kf 0))), ((qm 6), .inl (ty 1, 28, .inl (kf 0))), ((qm 7), .inl (ty 1, 256, .inl (kf 0))), ((qm 8), .inl (ty 1, 256, .inl (kf 0))), ((qm 9), .inl (ty 3, 16, .inl (kf 0))), ((qm 10), .inl (ty 1, 28, .inl (kf 0))), ((qm 11), .inl (ty 1, 28, .inl (kf 0))), ((qm 12), .inl (ty 1, 44, .inl (kf 0))), ((qm 13), .inl (ty 1, 2, .inl (kf 0))), ((qm 14), .inl (ty 1, 9, .inl (kf 0))), ((qm 15), .inl (ty 1, 512, .inl (kf 0))), ((qm 16), .inl (ty 1, 512, .inl (kf 0))), ((qm 17), .inl (ty 1, 16, .inl (kf 0))), ((qm 18), .inl (ty 1, 2, .inl (kf 0))), ((qm 19), .inl (ty 1, 4, .inl (upd (upd (upd (upd (kf 0) 0 (-1)) 1 (-1)) 2 (-1)) 3 (-1)))), ((qm 20), .inl (ty 1, 4, .inl (kf 0))), ((qm 21), .inl (ty 2, 240, .inr (.inl (kj 0)))), ((qm 22), .inl (ty 2, 60, .inr (.inl (kj 0)))), ((qm 23), .inl (ty 1, 304, .inl (upd (upd (kf 0) 1 2) 4 (-1))))] H := hP
    have hD : va_D (fun q : Nat => s.heap.size ≤ q) [(m0, .inr (12, [.int 0, .ref (qm 23), .ref (qm 0), .ref (qm 1), .ref (qm 2), .int 0, .ref (qm 3), .int 0, .int 0, .int 0, .int 0, .int 0, .int 0, .int (-1), .ref (qm 4), .ref (qm 5), .ref (qm 6), .ref (qm 7), .ref (qm 8), .ref (qm 9), .ref (qm 10), .ref (qm 11), .ref (qm 12), .int 0, .ref (qm 13), .int 0, .ref (qm 14), .int 0, .ref (qm 15), .ref (qm 16), .ref (qm 17), .int 0, .ref (qm 18), .int 0, .ref (qm 19), .ref (qm 20), .ref (qm 21), .ref (qm 22)])), ((qm 0), .inl (ty 1, 912, .inl (kf 0))), ((qm 1), .inl (ty 3, 3, .inl (kf 0))), ((qm 2), .inl (ty 0, 800, .inl (kf 0))), ((qm 3), .inl (ty 1, 5, .inl (kf 0))), ((qm 4), .inl (ty 1, 304, .inl (kf 0))), ((qm 5), .inl (ty 3, 28, .inl (kf 0))), ((qm 6), .inl (ty 1, 28, .inl (kf 0))), ((qm 7), .inl (ty 1, 256, .inl (kf 0))), ((qm 8), .inl (ty 1, 256, .inl (kf 0))), ((qm 9), .inl (ty 3, 16, .inl (kf 0))), ((qm 10), .inl (ty 1, 28, .inl (kf 0))), ((qm 11), .inl (ty 1, 28, .inl (kf 0))), ((qm 12), .inl (ty 1, 44, .inl (kf 0))), ((qm 13), .inl (ty 1, 2, .inl (kf 0))), ((qm 14), .inl (ty 1, 9, .inl (kf 0))), ((qm 15), .inl (ty 1, 512, .inl (kf 0))), ((qm 16), .inl (ty 1, 512, .inl (kf 0))), ((qm 17), .inl (ty 1, 16, .inl (kf 0))), ((qm 18), .inl (ty 1, 2, .inl (kf 0))), ((qm 19), .inl (ty 1, 4, .inl (upd (upd (upd (upd (kf 0) 0 (-1)) 1 (-1)) 2 (-1)) 3 (-1)))), ((qm 20), .inl (ty 1, 4, .inl (kf 0))), ((qm 21), .inl (ty 2, 240, .inr (.inl (kj 0)))), ((qm 22), .inl (ty 2, 60, .inr (.inl (kj 0)))), ((qm 23), .inl (ty 1, 304, .inl (upd (upd (kf 0) 1 2) 4 (-1))))] := hD
    refine lv_aload_n hx hb dL_law_1694 rfl (lv_at hl 1 rfl) ?_
    refine lv_aload_n hx hb dL_law_1695 rfl (lv_at hl 3 rfl) ?_
    refine lv_iload_n hx hb dL_law_1696 rfl (lv_at hl 0 rfl) ?_
    refine lv_iconst (v := 1) hx hb dL_law_1697 (by decide) ?_
    refine lv_iadd hx hb dL_law_1698 ?_
    refine tp_i (v := 1) (by decide) ?_
    refine va_sld hx hb hX hbl hbA hS (by unfold vp_in; decide) dL_law_1699 ?_
    refine tp_i (v := s1) h1 ?_
    refine kc_i (va_runV (As := [.int s1]) (rest := [.int (-1)]) ⟨hx, hb, hml, hown, hB⟩ (c221_X12_count l D ty H.size m0 (qm 23) (qm 19) s1 (.int 0) (.ref (qm 0)) (.ref (qm 1)) (.ref (qm 2)) (.ref (qm 3)) (.int 0) (.int 0) (.int 0) (.int 0) (.int 0) (.int 0) (.int (-1)) (.ref (qm 4)) (.ref (qm 5)) (.ref (qm 6)) (.ref (qm 7)) (.ref (qm 8)) (.ref (qm 9)) (.ref (qm 10)) (.ref (qm 11)) (.ref (qm 12)) (.int 0) (.ref (qm 13)) (.int 0) (.ref (qm 14)) (.int 0) (.ref (qm 15)) (.ref (qm 16)) (.ref (qm 17)) (.int 0) (.ref (qm 18)) (.int 0) (.ref (qm 20)) (.ref (qm 21)) (.ref (qm 22))) (cwV 1 hB (bw_V mw_960 mw_961 mw_962 mw_211 mw_959) rfl rfl rfl (by decide +kernel) ⟨Nat.le_of_ble_eq_true rfl, Nat.le_of_ble_eq_true rfl⟩) (kp_V hK hP hD [0, 24, 20] (by decide) rfl 0 rfl rfl rfl) rfl rfl hl.1 rfl (lv_room (Nat.le_of_ble_eq_true rfl)) dL_law_1700 ⟨Nat.le_of_ble_eq_true rfl, Nat.le_of_ble_eq_true rfl⟩) hP hD hS hA [0, 24, 20] [] (wr := []) rfl rfl (by decide) (by decide) (fun r u H locs w5 hP hD hS => ?_)
    rcases w5 with ⟨c6, rfl, rfl⟩ | ⟨c7, rfl, rfl⟩ | ⟨c8, rfl, rfl⟩
    · have hP : va_P D vwCl [] H := hP
      have hD : va_D (fun q : Nat => s.heap.size ≤ q) [] := hD
      refine lv_icmp_eq (tgt := 1933) hx hb dL_law_1703 (by decide) (fun _ => ?_) (fun h9 => absurd (by decide) h9)
      refine lv_iinc (v := 6) (lv' := [(3, .int 6), (2, .ref m0), (1, .ref x0), (0, .ref b)]) hx hb dL_law_1933 hl (k := 0) rfl (by decide) (by decide) rfl (fun ls hl => ?_)
      refine lv_goto (tgt := 18) hx hb dL_law_1936 (by decide) ?_
      exact law_end l (Nat.le_refl 6) C0 hS (lv_sub hl [0, 3] rfl)
    · exact (ps_45 s1 c2 c7).elim
    · exact (ps_46 s1 c2 c8).elim
  · have hP : va_P D vwCl [(m0, .inr (12, [.int 0, .ref (qm 23), .ref (qm 0), .ref (qm 1), .ref (qm 2), .int 0, .ref (qm 3), .int 0, .int 0, .int 0, .int 0, .int 0, .int 0, .int (-1), .ref (qm 4), .ref (qm 5), .ref (qm 6), .ref (qm 7), .ref (qm 8), .ref (qm 9), .ref (qm 10), .ref (qm 11), .ref (qm 12), .int 0, .ref (qm 13), .int 0, .ref (qm 14), .int 0, .ref (qm 15), .ref (qm 16), .ref (qm 17), .int 0, .ref (qm 18), .int 0, .ref (qm 19), .ref (qm 20), .ref (qm 21), .ref (qm 22)])), ((qm 0), .inl (ty 1, 912, .inl (kf 0))), ((qm 1), .inl (ty 3, 3, .inl (kf 0))), ((qm 2), .inl (ty 0, 800, .inl (kf 0))), ((qm 3), .inl (ty 1, 5, .inl (kf 0))), ((qm 4), .inl (ty 1, 304, .inl (kf 0))), ((qm 5), .inl (ty 3, 28, .inl (kf 0))), ((qm 6), .inl (ty 1, 28, .inl (kf 0))), ((qm 7), .inl (ty 1, 256, .inl (kf 0))), ((qm 8), .inl (ty 1, 256, .inl (kf 0))), ((qm 9), .inl (ty 3, 16, .inl (kf 0))), ((qm 10), .inl (ty 1, 28, .inl (kf 0))), ((qm 11), .inl (ty 1, 28, .inl (kf 0))), ((qm 12), .inl (ty 1, 44, .inl (kf 0))), ((qm 13), .inl (ty 1, 2, .inl (kf 0))), ((qm 14), .inl (ty 1, 9, .inl (kf 0))), ((qm 15), .inl (ty 1, 512, .inl (kf 0))), ((qm 16), .inl (ty 1, 512, .inl (kf 0))), ((qm 17), .inl (ty 1, 16, .inl (kf 0))), ((qm 18), .inl (ty 1, 2, .inl (kf 0))), ((qm 19), .inl (ty 1, 4, .inl (upd (upd (upd (upd (kf 0) 0 (-1)) 1 (-1)) 2 (-1)) 3 (-1)))), ((qm 20), .inl (ty 1, 4, .inl (kf 0))), ((qm 21), .inl (ty 2, 240, .inr (.inl (kj 0)))), ((qm 22), .inl (ty 2, 60, .inr (.inl (kj 0)))), ((qm 23), .inl (ty 1, 304, .inl (upd (upd (kf 0) 1 2) 4 (-1))))] H := hP
    have hD : va_D (fun q : Nat => s.heap.size ≤ q) [(m0, .inr (12, [.int 0, .ref (qm 23), .ref (qm 0), .ref (qm 1), .ref (qm 2), .int 0, .ref (qm 3), .int 0, .int 0, .int 0, .int 0, .int 0, .int 0, .int (-1), .ref (qm 4), .ref (qm 5), .ref (qm 6), .ref (qm 7), .ref (qm 8), .ref (qm 9), .ref (qm 10), .ref (qm 11), .ref (qm 12), .int 0, .ref (qm 13), .int 0, .ref (qm 14), .int 0, .ref (qm 15), .ref (qm 16), .ref (qm 17), .int 0, .ref (qm 18), .int 0, .ref (qm 19), .ref (qm 20), .ref (qm 21), .ref (qm 22)])), ((qm 0), .inl (ty 1, 912, .inl (kf 0))), ((qm 1), .inl (ty 3, 3, .inl (kf 0))), ((qm 2), .inl (ty 0, 800, .inl (kf 0))), ((qm 3), .inl (ty 1, 5, .inl (kf 0))), ((qm 4), .inl (ty 1, 304, .inl (kf 0))), ((qm 5), .inl (ty 3, 28, .inl (kf 0))), ((qm 6), .inl (ty 1, 28, .inl (kf 0))), ((qm 7), .inl (ty 1, 256, .inl (kf 0))), ((qm 8), .inl (ty 1, 256, .inl (kf 0))), ((qm 9), .inl (ty 3, 16, .inl (kf 0))), ((qm 10), .inl (ty 1, 28, .inl (kf 0))), ((qm 11), .inl (ty 1, 28, .inl (kf 0))), ((qm 12), .inl (ty 1, 44, .inl (kf 0))), ((qm 13), .inl (ty 1, 2, .inl (kf 0))), ((qm 14), .inl (ty 1, 9, .inl (kf 0))), ((qm 15), .inl (ty 1, 512, .inl (kf 0))), ((qm 16), .inl (ty 1, 512, .inl (kf 0))), ((qm 17), .inl (ty 1, 16, .inl (kf 0))), ((qm 18), .inl (ty 1, 2, .inl (kf 0))), ((qm 19), .inl (ty 1, 4, .inl (upd (upd (upd (upd (kf 0) 0 (-1)) 1 (-1)) 2 (-1)) 3 (-1)))), ((qm 20), .inl (ty 1, 4, .inl (kf 0))), ((qm 21), .inl (ty 2, 240, .inr (.inl (kj 0)))), ((qm 22), .inl (ty 2, 60, .inr (.inl (kj 0)))), ((qm 23), .inl (ty 1, 304, .inl (upd (upd (kf 0) 1 2) 4 (-1))))] := hD
    refine lv_aload_n hx hb dL_law_1694 rfl (lv_at hl 1 rfl) ?_
    refine lv_aload_n hx hb dL_law_1695 rfl (lv_at hl 3 rfl) ?_
    refine lv_iload_n hx hb dL_law_1696 rfl (lv_at hl 0 rfl) ?_
    refine lv_iconst (v := 1) hx hb dL_law_1697 (by decide) ?_
    refine lv_iadd hx hb dL_law_1698 ?_
    refine tp_i (v := 1) (by decide) ?_
    refine va_sld hx hb hX hbl hbA hS (by unfold vp_in; decide) dL_law_1699 ?_
    refine tp_i (v := s1) h1 ?_
    refine kc_i (va_runV (As := [.int s1]) (rest := [.int 0]) ⟨hx, hb, hml, hown, hB⟩ (c221_X12_count l D ty H.size m0 (qm 23) (qm 19) s1 (.int 0) (.ref (qm 0)) (.ref (qm 1)) (.ref (qm 2)) (.ref (qm 3)) (.int 0) (.int 0) (.int 0) (.int 0) (.int 0) (.int 0) (.int (-1)) (.ref (qm 4)) (.ref (qm 5)) (.ref (qm 6)) (.ref (qm 7)) (.ref (qm 8)) (.ref (qm 9)) (.ref (qm 10)) (.ref (qm 11)) (.ref (qm 12)) (.int 0) (.ref (qm 13)) (.int 0) (.ref (qm 14)) (.int 0) (.ref (qm 15)) (.ref (qm 16)) (.ref (qm 17)) (.int 0) (.ref (qm 18)) (.int 0) (.ref (qm 20)) (.ref (qm 21)) (.ref (qm 22))) (cwV 1 hB (bw_V mw_960 mw_961 mw_962 mw_211 mw_959) rfl rfl rfl (by decide +kernel) ⟨Nat.le_of_ble_eq_true rfl, Nat.le_of_ble_eq_true rfl⟩) (kp_V hK hP hD [0, 24, 20] (by decide) rfl 0 rfl rfl rfl) rfl rfl hl.1 rfl (lv_room (Nat.le_of_ble_eq_true rfl)) dL_law_1700 ⟨Nat.le_of_ble_eq_true rfl, Nat.le_of_ble_eq_true rfl⟩) hP hD hS hA [0, 24, 20] [] (wr := []) rfl rfl (by decide) (by decide) (fun r u H locs w9 hP hD hS => ?_)
    rcases w9 with ⟨c10, rfl, rfl⟩ | ⟨c11, rfl, rfl⟩ | ⟨c12, rfl, rfl⟩
    · exact (ps_47 s1 c3 c10).elim
    · have hP : va_P D vwCl [] H := hP
      have hD : va_D (fun q : Nat => s.heap.size ≤ q) [] := hD
      refine lv_icmp_eq (tgt := 1933) hx hb dL_law_1703 (by decide) (fun _ => ?_) (fun h9 => absurd (by decide) h9)
      refine lv_iinc (v := 6) (lv' := [(3, .int 6), (2, .ref m0), (1, .ref x0), (0, .ref b)]) hx hb dL_law_1933 hl (k := 0) rfl (by decide) (by decide) rfl (fun ls hl => ?_)
      refine lv_goto (tgt := 18) hx hb dL_law_1936 (by decide) ?_
      exact law_end l (Nat.le_refl 6) C0 hS (lv_sub hl [0, 3] rfl)
    · exact (ps_48 s1 c3 c12).elim
  · have hP : va_P D vwCl [(m0, .inr (12, [.int 0, .ref (qm 23), .ref (qm 0), .ref (qm 1), .ref (qm 2), .int 0, .ref (qm 3), .int 0, .int 0, .int 0, .int 0, .int 0, .int 0, .int (-1), .ref (qm 4), .ref (qm 5), .ref (qm 6), .ref (qm 7), .ref (qm 8), .ref (qm 9), .ref (qm 10), .ref (qm 11), .ref (qm 12), .int 0, .ref (qm 13), .int 0, .ref (qm 14), .int 0, .ref (qm 15), .ref (qm 16), .ref (qm 17), .int 0, .ref (qm 18), .int 0, .ref (qm 19), .ref (qm 20), .ref (qm 21), .ref (qm 22)])), ((qm 0), .inl (ty 1, 912, .inl (kf 0))), ((qm 1), .inl (ty 3, 3, .inl (kf 0))), ((qm 2), .inl (ty 0, 800, .inl (kf 0))), ((qm 3), .inl (ty 1, 5, .inl (kf 0))), ((qm 4), .inl (ty 1, 304, .inl (kf 0))), ((qm 5), .inl (ty 3, 28, .inl (kf 0))), ((qm 6), .inl (ty 1, 28, .inl (kf 0))), ((qm 7), .inl (ty 1, 256, .inl (kf 0))), ((qm 8), .inl (ty 1, 256, .inl (kf 0))), ((qm 9), .inl (ty 3, 16, .inl (kf 0))), ((qm 10), .inl (ty 1, 28, .inl (kf 0))), ((qm 11), .inl (ty 1, 28, .inl (kf 0))), ((qm 12), .inl (ty 1, 44, .inl (kf 0))), ((qm 13), .inl (ty 1, 2, .inl (kf 0))), ((qm 14), .inl (ty 1, 9, .inl (kf 0))), ((qm 15), .inl (ty 1, 512, .inl (kf 0))), ((qm 16), .inl (ty 1, 512, .inl (kf 0))), ((qm 17), .inl (ty 1, 16, .inl (kf 0))), ((qm 18), .inl (ty 1, 2, .inl (kf 0))), ((qm 19), .inl (ty 1, 4, .inl (upd (upd (upd (upd (kf 0) 0 (-1)) 1 (-1)) 2 (-1)) 3 (-1)))), ((qm 20), .inl (ty 1, 4, .inl (kf 0))), ((qm 21), .inl (ty 2, 240, .inr (.inl (kj 0)))), ((qm 22), .inl (ty 2, 60, .inr (.inl (kj 0)))), ((qm 23), .inl (ty 1, 304, .inl (upd (upd (kf 0) 1 2) 4 (-1))))] H := hP
    have hD : va_D (fun q : Nat => s.heap.size ≤ q) [(m0, .inr (12, [.int 0, .ref (qm 23), .ref (qm 0), .ref (qm 1), .ref (qm 2), .int 0, .ref (qm 3), .int 0, .int 0, .int 0, .int 0, .int 0, .int 0, .int (-1), .ref (qm 4), .ref (qm 5), .ref (qm 6), .ref (qm 7), .ref (qm 8), .ref (qm 9), .ref (qm 10), .ref (qm 11), .ref (qm 12), .int 0, .ref (qm 13), .int 0, .ref (qm 14), .int 0, .ref (qm 15), .ref (qm 16), .ref (qm 17), .int 0, .ref (qm 18), .int 0, .ref (qm 19), .ref (qm 20), .ref (qm 21), .ref (qm 22)])), ((qm 0), .inl (ty 1, 912, .inl (kf 0))), ((qm 1), .inl (ty 3, 3, .inl (kf 0))), ((qm 2), .inl (ty 0, 800, .inl (kf 0))), ((qm 3), .inl (ty 1, 5, .inl (kf 0))), ((qm 4), .inl (ty 1, 304, .inl (kf 0))), ((qm 5), .inl (ty 3, 28, .inl (kf 0))), ((qm 6), .inl (ty 1, 28, .inl (kf 0))), ((qm 7), .inl (ty 1, 256, .inl (kf 0))), ((qm 8), .inl (ty 1, 256, .inl (kf 0))), ((qm 9), .inl (ty 3, 16, .inl (kf 0))), ((qm 10), .inl (ty 1, 28, .inl (kf 0))), ((qm 11), .inl (ty 1, 28, .inl (kf 0))), ((qm 12), .inl (ty 1, 44, .inl (kf 0))), ((qm 13), .inl (ty 1, 2, .inl (kf 0))), ((qm 14), .inl (ty 1, 9, .inl (kf 0))), ((qm 15), .inl (ty 1, 512, .inl (kf 0))), ((qm 16), .inl (ty 1, 512, .inl (kf 0))), ((qm 17), .inl (ty 1, 16, .inl (kf 0))), ((qm 18), .inl (ty 1, 2, .inl (kf 0))), ((qm 19), .inl (ty 1, 4, .inl (upd (upd (upd (upd (kf 0) 0 (-1)) 1 (-1)) 2 (-1)) 3 (-1)))), ((qm 20), .inl (ty 1, 4, .inl (kf 0))), ((qm 21), .inl (ty 2, 240, .inr (.inl (kj 0)))), ((qm 22), .inl (ty 2, 60, .inr (.inl (kj 0)))), ((qm 23), .inl (ty 1, 304, .inl (upd (upd (kf 0) 1 2) 4 (-1))))] := hD
    refine lv_aload_n hx hb dL_law_1694 rfl (lv_at hl 1 rfl) ?_
    refine lv_aload_n hx hb dL_law_1695 rfl (lv_at hl 3 rfl) ?_
    refine lv_iload_n hx hb dL_law_1696 rfl (lv_at hl 0 rfl) ?_
    refine lv_iconst (v := 1) hx hb dL_law_1697 (by decide) ?_
    refine lv_iadd hx hb dL_law_1698 ?_
    refine tp_i (v := 1) (by decide) ?_
    refine va_sld hx hb hX hbl hbA hS (by unfold vp_in; decide) dL_law_1699 ?_
    refine tp_i (v := s1) h1 ?_
    refine kc_i (va_runV (As := [.int s1]) (rest := [.int 2]) ⟨hx, hb, hml, hown, hB⟩ (c221_X12_count l D ty H.size m0 (qm 23) (qm 19) s1 (.int 0) (.ref (qm 0)) (.ref (qm 1)) (.ref (qm 2)) (.ref (qm 3)) (.int 0) (.int 0) (.int 0) (.int 0) (.int 0) (.int 0) (.int (-1)) (.ref (qm 4)) (.ref (qm 5)) (.ref (qm 6)) (.ref (qm 7)) (.ref (qm 8)) (.ref (qm 9)) (.ref (qm 10)) (.ref (qm 11)) (.ref (qm 12)) (.int 0) (.ref (qm 13)) (.int 0) (.ref (qm 14)) (.int 0) (.ref (qm 15)) (.ref (qm 16)) (.ref (qm 17)) (.int 0) (.ref (qm 18)) (.int 0) (.ref (qm 20)) (.ref (qm 21)) (.ref (qm 22))) (cwV 1 hB (bw_V mw_960 mw_961 mw_962 mw_211 mw_959) rfl rfl rfl (by decide +kernel) ⟨Nat.le_of_ble_eq_true rfl, Nat.le_of_ble_eq_true rfl⟩) (kp_V hK hP hD [0, 24, 20] (by decide) rfl 0 rfl rfl rfl) rfl rfl hl.1 rfl (lv_room (Nat.le_of_ble_eq_true rfl)) dL_law_1700 ⟨Nat.le_of_ble_eq_true rfl, Nat.le_of_ble_eq_true rfl⟩) hP hD hS hA [0, 24, 20] [] (wr := []) rfl rfl (by decide) (by decide) (fun r u H locs w13 hP hD hS => ?_)
    rcases w13 with ⟨c14, rfl, rfl⟩ | ⟨c15, rfl, rfl⟩ | ⟨c16, rfl, rfl⟩
    · exact (ps_49 s1 c4 c14).elim
    · exact (ps_50 s1 c4 c15).elim
    · have hP : va_P D vwCl [] H := hP
      have hD : va_D (fun q : Nat => s.heap.size ≤ q) [] := hD
      refine lv_icmp_eq (tgt := 1933) hx hb dL_law_1703 (by decide) (fun _ => ?_) (fun h9 => absurd (by decide) h9)
      refine lv_iinc (v := 6) (lv' := [(3, .int 6), (2, .ref m0), (1, .ref x0), (0, .ref b)]) hx hb dL_law_1933 hl (k := 0) rfl (by decide) (by decide) rfl (fun ls hl => ?_)
      refine lv_goto (tgt := 18) hx hb dL_law_1936 (by decide) ?_
      exact law_end l (Nat.le_refl 6) C0 hS (lv_sub hl [0, 3] rfl)

set_option maxHeartbeats 4000000 in
set_option maxRecDepth 100000 in
theorem br_50 {p : Program} {e : Env} {s : State} {m : MethodId} {below : List Frame} {meth : Method} {c : Code} (l : Launch) {b : Nat} {xs : Nat → Int32} (C0 : lw_At p s m meth c b 6 xs) (D : va_G) (ty : Nat → ClassId) (hK : kK D ty s) (x0 m0 : Nat) (qx qm : Nat → Nat) {H : Heap} {locs : List Loc} {ls : Array Slot} (hP : va_P D vwCl (lawW ty x0 m0 qx qm) H) (hD : va_D (fun q : Nat => s.heap.size ≤ q) (lawW ty x0 m0 qx qm)) (hS : va_S (fun q : Nat => s.heap.size ≤ q) s.heap H locs) (hl : lv_has ls 4 [(3, .int 0), (2, .ref m0), (1, .ref x0), (0, .ref b)]) :
    W p l e room_1 s m #[Value.ref b] below meth c H locs 200 10000 (lw_Z below #[Value.ref b] s) (F0 m 1708 ls []) := by
  obtain ⟨hx, hb, hr, hml, hown0, hts, hX, hbl, hlocks, hgv⟩ := id C0
  have hown : s.vm.findClass RL = some m.cls := hown0
  have hB : ∀ w ∈ bW, w.before #[Value.ref b] s = true := fun w h => hts w (bW_lw h)
  have hA : ∀ q : Nat, s.heap.size ≤ q → (fun q : Nat => s.heap.size ≤ q) q := fun _ h => h
  have hbA : ¬ (fun q : Nat => s.heap.size ≤ q) b := Nat.not_le.mpr hbl
  obtain ⟨s1, h1⟩ : ∃ y, xs 1 = y := ⟨_, rfl⟩
  obtain ⟨s2, h2⟩ : ∃ y, xs 2 = y := ⟨_, rfl⟩
  obtain ⟨s3, h3⟩ : ∃ y, xs 3 = y := ⟨_, rfl⟩
  obtain ⟨s4, h4⟩ : ∃ y, xs 4 = y := ⟨_, rfl⟩
  obtain ⟨s5, h5⟩ : ∃ y, xs 5 = y := ⟨_, rfl⟩
  refine lv_aload_n hx hb dL_law_1708 rfl (lv_at hl 2 rfl) ?_
  refine lv_aload_n hx hb dL_law_1709 rfl (lv_at hl 3 rfl) ?_
  refine lv_iload_n hx hb dL_law_1710 rfl (lv_at hl 0 rfl) ?_
  refine lv_iconst (v := 1) hx hb dL_law_1711 (by decide) ?_
  refine lv_iadd hx hb dL_law_1712 ?_
  refine tp_i (v := 1) (by decide) ?_
  refine va_sld hx hb hX hbl hbA hS (by unfold vp_in; decide) dL_law_1713 ?_
  refine tp_i (v := s1) h1 ?_
  refine kc_i (va_runV (As := [.int s1]) (rest := []) ⟨hx, hb, hml, hown, hB⟩ (c130_X11_keep l D ty H.size x0 (qx 35) (qx 51) (qx 19) (qx 52) (qx 118) (qx 20) (qx 53) (qx 21) (qx 54) (qx 22) (qx 55) (qx 23) (qx 56) (qx 57) (qx 24) (qx 25) (qx 58) (qx 26) (qx 59) (qx 27) (qx 60) (qx 61) (qx 28) (qx 29) (qx 62) (qx 30) (qx 63) (qx 117) (qx 64) (qx 31) (qx 65) (qx 116) (qx 66) (qx 32) (qx 67) (qx 33) (qx 68) (qx 34) (qx 69) (qx 70) (qx 71) (qx 72) (qx 73) (qx 74) (qx 75) (qx 76) (qx 77) (qx 78) (qx 79) (qx 80) (qx 81) (qx 82) (qx 83) (qx 84) (qx 85) (qx 86) (qx 87) (qx 88) (qx 89) (qx 90) (qx 91) (qx 92) (qx 93) (qx 94) (qx 95) (qx 96) (qx 97) (qx 98) (qx 99) (qx 100) (qx 101) (qx 102) (qx 103) (qx 104) (qx 105) (qx 106) (qx 107) s1 (.ref (qx 0)) (.int 0) (.ref (qx 1)) (.ref (qx 36)) (.ref (qx 119)) (.ref (qx 42)) (.ref (qx 44)) (.ref (qx 45)) (.ref (qx 50)) (.int (-1)) (.int (-1)) (.int (-1)) (.int (-1)) (.int 0) (.int 0) (.int 0) (.int 2) (.int 0) (.int (-1)) (.int 0) (.int 0) (.int 0) (.int 0) (.int 0) (kf 0) (kf 0) (kf 0) (kf 0) (kf 0) (kf 0) (kf 0) (kf 0) (.int 0) (kf 0) (kf 0) (kf 0) (kf 0) (kf 0) (kf 0) (.int 0) (.int 0) (kf 0) (kf 0) (kf 0) (kf 0) (upd (upd (upd (kf 0) 0 0) 1 0) 2 0) (kf 0) (kf 0) (kf 0) (upd (upd (upd (upd (kf 0) 0 0) 16 1000000) 1 1000000) 17 0) (kf 0) (kf 0) (kf 0) (kf 0) (kf 0) (.int 0) (.int 0) (.int 2) (.int 0) (.int (-1)) (.int 0) (.int 0) (.int 0) (.int 0) (.int 0) (kf 0) (kf 0) (kf 0) (kf 0) (.int 0) (kf 0) (kf 0) (kf 0) (.int 0) (.int 0) (kf 0) (kf 0) (kf 0) (kf 0) (kf 0) (kf 0) (kf 0) (.int 0) (.int 0) (.int 2) (.int 0) (.int (-1)) (.int 0) (.int 0) (.int 0) (.int 0) (.int 0) (kf 0) (kf 0) (kf 0) (kf 0) (.int 0) (kf 0) (kf 0) (kf 0) (.int 0) (.int 0) (kf 0) (kf 0) (kf 0) (kf 0) (kf 0) (kf 0) (kf 0)) (cwV 1 hB (bw_V mw_964 mw_965 mw_966 mw_216 mw_963) rfl rfl rfl (by decide +kernel) ⟨Nat.le_of_ble_eq_true rfl, Nat.le_of_ble_eq_true rfl⟩) (kp_V hK hP hD [0, 36, 52, 20, 53, 119, 21, 54, 22, 55, 23, 56, 24, 57, 58, 25, 26, 59, 27, 60, 28, 61, 62, 29, 30, 63, 31, 64, 118, 65, 32, 66, 117, 67, 33, 68, 34, 69, 35, 70, 71, 72, 73, 74, 75, 76, 77, 78, 79, 80, 81, 82, 83, 84, 85, 86, 87, 88, 89, 90, 91, 92, 93, 94, 95, 96, 97, 98, 99, 100, 101, 102, 103, 104, 105, 106, 107, 108] (by decide) rfl 0 rfl rfl rfl) rfl rfl hl.1 rfl (lv_room (Nat.le_of_ble_eq_true rfl)) dL_law_1714 ⟨Nat.le_of_ble_eq_true rfl, Nat.le_of_ble_eq_true rfl⟩) hP hD hS hA [0, 36, 52, 20, 53, 119, 21, 54, 22, 55, 23, 56, 24, 57, 58, 25, 26, 59, 27, 60, 28, 61, 62, 29, 30, 63, 31, 64, 118, 65, 32, 66, 117, 67, 33, 68, 34, 69, 35, 70, 71, 72, 73, 74, 75, 76, 77, 78, 79, 80, 81, 82, 83, 84, 85, 86, 87, 88, 89, 90, 91, 92, 93, 94, 95, 96, 97, 98, 99, 100, 101, 102, 103, 104, 105, 106, 107, 108] [122, 123, 124, 125, 126, 127, 128, 129, 130, 131, 132, 133, 134, 135, 136, 137, 138, 139, 140, 141, 142, 143, 144, 145, 146] (wr := [(m0, .inr (12, [.int 0, .ref (qm 23), .ref (qm 0), .ref (qm 1), .ref (qm 2), .int 0, .ref (qm 3), .int 0, .int 0, .int 0, .int 0, .int 0, .int 0, .int (-1), .ref (qm 4), .ref (qm 5), .ref (qm 6), .ref (qm 7), .ref (qm 8), .ref (qm 9), .ref (qm 10), .ref (qm 11), .ref (qm 12), .int 0, .ref (qm 13), .int 0, .ref (qm 14), .int 0, .ref (qm 15), .ref (qm 16), .ref (qm 17), .int 0, .ref (qm 18), .int 0, .ref (qm 19), .ref (qm 20), .ref (qm 21), .ref (qm 22)])), ((qm 0), .inl (ty 1, 912, .inl (kf 0))), ((qm 1), .inl (ty 3, 3, .inl (kf 0))), ((qm 2), .inl (ty 0, 800, .inl (kf 0))), ((qm 3), .inl (ty 1, 5, .inl (kf 0))), ((qm 4), .inl (ty 1, 304, .inl (kf 0))), ((qm 5), .inl (ty 3, 28, .inl (kf 0))), ((qm 6), .inl (ty 1, 28, .inl (kf 0))), ((qm 7), .inl (ty 1, 256, .inl (kf 0))), ((qm 8), .inl (ty 1, 256, .inl (kf 0))), ((qm 9), .inl (ty 3, 16, .inl (kf 0))), ((qm 10), .inl (ty 1, 28, .inl (kf 0))), ((qm 11), .inl (ty 1, 28, .inl (kf 0))), ((qm 12), .inl (ty 1, 44, .inl (kf 0))), ((qm 13), .inl (ty 1, 2, .inl (kf 0))), ((qm 14), .inl (ty 1, 9, .inl (kf 0))), ((qm 15), .inl (ty 1, 512, .inl (kf 0))), ((qm 16), .inl (ty 1, 512, .inl (kf 0))), ((qm 17), .inl (ty 1, 16, .inl (kf 0))), ((qm 18), .inl (ty 1, 2, .inl (kf 0))), ((qm 19), .inl (ty 1, 4, .inl (upd (upd (upd (upd (kf 0) 0 (-1)) 1 (-1)) 2 (-1)) 3 (-1)))), ((qm 20), .inl (ty 1, 4, .inl (kf 0))), ((qm 21), .inl (ty 2, 240, .inr (.inl (kj 0)))), ((qm 22), .inl (ty 2, 60, .inr (.inl (kj 0)))), ((qm 23), .inl (ty 1, 304, .inl (upd (upd (kf 0) 1 2) 4 (-1))))]) rfl rfl (by decide) (by decide) (fun r u H locs w1 hP hD hS => ?_)
  rcases w1 with ⟨c2, rfl, rfl⟩ | ⟨c3, rfl, rfl⟩
  · have hP : va_P D vwCl [(m0, .inr (12, [.int 0, .ref (qm 23), .ref (qm 0), .ref (qm 1), .ref (qm 2), .int 0, .ref (qm 3), .int 0, .int 0, .int 0, .int 0, .int 0, .int 0, .int (-1), .ref (qm 4), .ref (qm 5), .ref (qm 6), .ref (qm 7), .ref (qm 8), .ref (qm 9), .ref (qm 10), .ref (qm 11), .ref (qm 12), .int 0, .ref (qm 13), .int 0, .ref (qm 14), .int 0, .ref (qm 15), .ref (qm 16), .ref (qm 17), .int 0, .ref (qm 18), .int 0, .ref (qm 19), .ref (qm 20), .ref (qm 21), .ref (qm 22)])), ((qm 0), .inl (ty 1, 912, .inl (kf 0))), ((qm 1), .inl (ty 3, 3, .inl (kf 0))), ((qm 2), .inl (ty 0, 800, .inl (kf 0))), ((qm 3), .inl (ty 1, 5, .inl (kf 0))), ((qm 4), .inl (ty 1, 304, .inl (kf 0))), ((qm 5), .inl (ty 3, 28, .inl (kf 0))), ((qm 6), .inl (ty 1, 28, .inl (kf 0))), ((qm 7), .inl (ty 1, 256, .inl (kf 0))), ((qm 8), .inl (ty 1, 256, .inl (kf 0))), ((qm 9), .inl (ty 3, 16, .inl (kf 0))), ((qm 10), .inl (ty 1, 28, .inl (kf 0))), ((qm 11), .inl (ty 1, 28, .inl (kf 0))), ((qm 12), .inl (ty 1, 44, .inl (kf 0))), ((qm 13), .inl (ty 1, 2, .inl (kf 0))), ((qm 14), .inl (ty 1, 9, .inl (kf 0))), ((qm 15), .inl (ty 1, 512, .inl (kf 0))), ((qm 16), .inl (ty 1, 512, .inl (kf 0))), ((qm 17), .inl (ty 1, 16, .inl (kf 0))), ((qm 18), .inl (ty 1, 2, .inl (kf 0))), ((qm 19), .inl (ty 1, 4, .inl (upd (upd (upd (upd (kf 0) 0 (-1)) 1 (-1)) 2 (-1)) 3 (-1)))), ((qm 20), .inl (ty 1, 4, .inl (kf 0))), ((qm 21), .inl (ty 2, 240, .inr (.inl (kj 0)))), ((qm 22), .inl (ty 2, 60, .inr (.inl (kj 0)))), ((qm 23), .inl (ty 1, 304, .inl (upd (upd (kf 0) 1 2) 4 (-1))))] H := hP
    have hD : va_D (fun q : Nat => s.heap.size ≤ q) [(m0, .inr (12, [.int 0, .ref (qm 23), .ref (qm 0), .ref (qm 1), .ref (qm 2), .int 0, .ref (qm 3), .int 0, .int 0, .int 0, .int 0, .int 0, .int 0, .int (-1), .ref (qm 4), .ref (qm 5), .ref (qm 6), .ref (qm 7), .ref (qm 8), .ref (qm 9), .ref (qm 10), .ref (qm 11), .ref (qm 12), .int 0, .ref (qm 13), .int 0, .ref (qm 14), .int 0, .ref (qm 15), .ref (qm 16), .ref (qm 17), .int 0, .ref (qm 18), .int 0, .ref (qm 19), .ref (qm 20), .ref (qm 21), .ref (qm 22)])), ((qm 0), .inl (ty 1, 912, .inl (kf 0))), ((qm 1), .inl (ty 3, 3, .inl (kf 0))), ((qm 2), .inl (ty 0, 800, .inl (kf 0))), ((qm 3), .inl (ty 1, 5, .inl (kf 0))), ((qm 4), .inl (ty 1, 304, .inl (kf 0))), ((qm 5), .inl (ty 3, 28, .inl (kf 0))), ((qm 6), .inl (ty 1, 28, .inl (kf 0))), ((qm 7), .inl (ty 1, 256, .inl (kf 0))), ((qm 8), .inl (ty 1, 256, .inl (kf 0))), ((qm 9), .inl (ty 3, 16, .inl (kf 0))), ((qm 10), .inl (ty 1, 28, .inl (kf 0))), ((qm 11), .inl (ty 1, 28, .inl (kf 0))), ((qm 12), .inl (ty 1, 44, .inl (kf 0))), ((qm 13), .inl (ty 1, 2, .inl (kf 0))), ((qm 14), .inl (ty 1, 9, .inl (kf 0))), ((qm 15), .inl (ty 1, 512, .inl (kf 0))), ((qm 16), .inl (ty 1, 512, .inl (kf 0))), ((qm 17), .inl (ty 1, 16, .inl (kf 0))), ((qm 18), .inl (ty 1, 2, .inl (kf 0))), ((qm 19), .inl (ty 1, 4, .inl (upd (upd (upd (upd (kf 0) 0 (-1)) 1 (-1)) 2 (-1)) 3 (-1)))), ((qm 20), .inl (ty 1, 4, .inl (kf 0))), ((qm 21), .inl (ty 2, 240, .inr (.inl (kj 0)))), ((qm 22), .inl (ty 2, 60, .inr (.inl (kj 0)))), ((qm 23), .inl (ty 1, 304, .inl (upd (upd (kf 0) 1 2) 4 (-1))))] := hD
    refine lv_aload_n hx hb dL_law_1717 rfl (lv_at hl 1 rfl) ?_
    refine lv_aload_n hx hb dL_law_1718 rfl (lv_at hl 3 rfl) ?_
    refine lv_iload_n hx hb dL_law_1719 rfl (lv_at hl 0 rfl) ?_
    refine lv_iconst (v := 1) hx hb dL_law_1720 (by decide) ?_
    refine lv_iadd hx hb dL_law_1721 ?_
    refine tp_i (v := 1) (by decide) ?_
    refine va_sld hx hb hX hbl hbA hS (by unfold vp_in; decide) dL_law_1722 ?_
    refine tp_i (v := s1) h1 ?_
    refine kc_i (va_runV (As := [.int s1]) (rest := [.int (-2)]) ⟨hx, hb, hml, hown, hB⟩ (c225_X12_keep l D ty H.size m0 (qm 0) (qm 23) (qm 1) s1 (.int 0) (.ref (qm 2)) (.int 0) (.ref (qm 3)) (.int 0) (.int 0) (.int 0) (.int 0) (.int 0) (.int 0) (.int (-1)) (.ref (qm 4)) (.ref (qm 5)) (.ref (qm 6)) (.ref (qm 7)) (.ref (qm 8)) (.ref (qm 9)) (.ref (qm 10)) (.ref (qm 11)) (.ref (qm 12)) (.int 0) (.ref (qm 13)) (.int 0) (.ref (qm 14)) (.int 0) (.ref (qm 15)) (.ref (qm 16)) (.ref (qm 17)) (.int 0) (.ref (qm 18)) (.int 0) (.ref (qm 19)) (.ref (qm 20)) (.ref (qm 21)) (.ref (qm 22)) (kf 0) (upd (upd (kf 0) 1 2) 4 (-1)) (kf 0)) (cwV 1 hB (bw_V mw_968 mw_969 mw_970 mw_211 mw_967) rfl rfl rfl (by decide +kernel) ⟨Nat.le_of_ble_eq_true rfl, Nat.le_of_ble_eq_true rfl⟩) (kp_V hK hP hD [0, 1, 24, 2] (by decide) rfl 0 rfl rfl rfl) rfl rfl hl.1 rfl (lv_room (Nat.le_of_ble_eq_true rfl)) dL_law_1723 ⟨Nat.le_of_ble_eq_true rfl, Nat.le_of_ble_eq_true rfl⟩) hP hD hS hA [0, 1, 24, 2] [] (wr := []) rfl rfl (by decide) (by decide) (fun r u H locs w4 hP hD hS => ?_)
    rcases w4 with ⟨c5, rfl, rfl⟩ | ⟨c6, rfl, rfl⟩
    · exact (ps_51 s1 c2 c5).elim
    · have hP : va_P D vwCl [] H := hP
      have hD : va_D (fun q : Nat => s.heap.size ≤ q) [] := hD
      refine lv_icmp_eq (tgt := 1933) hx hb dL_law_1726 (by decide) (fun _ => ?_) (fun h9 => absurd (by decide) h9)
      refine lv_iinc (v := 6) (lv' := [(3, .int 6), (2, .ref m0), (1, .ref x0), (0, .ref b)]) hx hb dL_law_1933 hl (k := 0) rfl (by decide) (by decide) rfl (fun ls hl => ?_)
      refine lv_goto (tgt := 18) hx hb dL_law_1936 (by decide) ?_
      exact law_end l (Nat.le_refl 6) C0 hS (lv_sub hl [0, 3] rfl)
  · have hP : va_P D vwCl [(m0, .inr (12, [.int 0, .ref (qm 23), .ref (qm 0), .ref (qm 1), .ref (qm 2), .int 0, .ref (qm 3), .int 0, .int 0, .int 0, .int 0, .int 0, .int 0, .int (-1), .ref (qm 4), .ref (qm 5), .ref (qm 6), .ref (qm 7), .ref (qm 8), .ref (qm 9), .ref (qm 10), .ref (qm 11), .ref (qm 12), .int 0, .ref (qm 13), .int 0, .ref (qm 14), .int 0, .ref (qm 15), .ref (qm 16), .ref (qm 17), .int 0, .ref (qm 18), .int 0, .ref (qm 19), .ref (qm 20), .ref (qm 21), .ref (qm 22)])), ((qm 0), .inl (ty 1, 912, .inl (kf 0))), ((qm 1), .inl (ty 3, 3, .inl (kf 0))), ((qm 2), .inl (ty 0, 800, .inl (kf 0))), ((qm 3), .inl (ty 1, 5, .inl (kf 0))), ((qm 4), .inl (ty 1, 304, .inl (kf 0))), ((qm 5), .inl (ty 3, 28, .inl (kf 0))), ((qm 6), .inl (ty 1, 28, .inl (kf 0))), ((qm 7), .inl (ty 1, 256, .inl (kf 0))), ((qm 8), .inl (ty 1, 256, .inl (kf 0))), ((qm 9), .inl (ty 3, 16, .inl (kf 0))), ((qm 10), .inl (ty 1, 28, .inl (kf 0))), ((qm 11), .inl (ty 1, 28, .inl (kf 0))), ((qm 12), .inl (ty 1, 44, .inl (kf 0))), ((qm 13), .inl (ty 1, 2, .inl (kf 0))), ((qm 14), .inl (ty 1, 9, .inl (kf 0))), ((qm 15), .inl (ty 1, 512, .inl (kf 0))), ((qm 16), .inl (ty 1, 512, .inl (kf 0))), ((qm 17), .inl (ty 1, 16, .inl (kf 0))), ((qm 18), .inl (ty 1, 2, .inl (kf 0))), ((qm 19), .inl (ty 1, 4, .inl (upd (upd (upd (upd (kf 0) 0 (-1)) 1 (-1)) 2 (-1)) 3 (-1)))), ((qm 20), .inl (ty 1, 4, .inl (kf 0))), ((qm 21), .inl (ty 2, 240, .inr (.inl (kj 0)))), ((qm 22), .inl (ty 2, 60, .inr (.inl (kj 0)))), ((qm 23), .inl (ty 1, 304, .inl (upd (upd (kf 0) 1 2) 4 (-1))))] H := hP
    have hD : va_D (fun q : Nat => s.heap.size ≤ q) [(m0, .inr (12, [.int 0, .ref (qm 23), .ref (qm 0), .ref (qm 1), .ref (qm 2), .int 0, .ref (qm 3), .int 0, .int 0, .int 0, .int 0, .int 0, .int 0, .int (-1), .ref (qm 4), .ref (qm 5), .ref (qm 6), .ref (qm 7), .ref (qm 8), .ref (qm 9), .ref (qm 10), .ref (qm 11), .ref (qm 12), .int 0, .ref (qm 13), .int 0, .ref (qm 14), .int 0, .ref (qm 15), .ref (qm 16), .ref (qm 17), .int 0, .ref (qm 18), .int 0, .ref (qm 19), .ref (qm 20), .ref (qm 21), .ref (qm 22)])), ((qm 0), .inl (ty 1, 912, .inl (kf 0))), ((qm 1), .inl (ty 3, 3, .inl (kf 0))), ((qm 2), .inl (ty 0, 800, .inl (kf 0))), ((qm 3), .inl (ty 1, 5, .inl (kf 0))), ((qm 4), .inl (ty 1, 304, .inl (kf 0))), ((qm 5), .inl (ty 3, 28, .inl (kf 0))), ((qm 6), .inl (ty 1, 28, .inl (kf 0))), ((qm 7), .inl (ty 1, 256, .inl (kf 0))), ((qm 8), .inl (ty 1, 256, .inl (kf 0))), ((qm 9), .inl (ty 3, 16, .inl (kf 0))), ((qm 10), .inl (ty 1, 28, .inl (kf 0))), ((qm 11), .inl (ty 1, 28, .inl (kf 0))), ((qm 12), .inl (ty 1, 44, .inl (kf 0))), ((qm 13), .inl (ty 1, 2, .inl (kf 0))), ((qm 14), .inl (ty 1, 9, .inl (kf 0))), ((qm 15), .inl (ty 1, 512, .inl (kf 0))), ((qm 16), .inl (ty 1, 512, .inl (kf 0))), ((qm 17), .inl (ty 1, 16, .inl (kf 0))), ((qm 18), .inl (ty 1, 2, .inl (kf 0))), ((qm 19), .inl (ty 1, 4, .inl (upd (upd (upd (upd (kf 0) 0 (-1)) 1 (-1)) 2 (-1)) 3 (-1)))), ((qm 20), .inl (ty 1, 4, .inl (kf 0))), ((qm 21), .inl (ty 2, 240, .inr (.inl (kj 0)))), ((qm 22), .inl (ty 2, 60, .inr (.inl (kj 0)))), ((qm 23), .inl (ty 1, 304, .inl (upd (upd (kf 0) 1 2) 4 (-1))))] := hD
    refine lv_aload_n hx hb dL_law_1717 rfl (lv_at hl 1 rfl) ?_
    refine lv_aload_n hx hb dL_law_1718 rfl (lv_at hl 3 rfl) ?_
    refine lv_iload_n hx hb dL_law_1719 rfl (lv_at hl 0 rfl) ?_
    refine lv_iconst (v := 1) hx hb dL_law_1720 (by decide) ?_
    refine lv_iadd hx hb dL_law_1721 ?_
    refine tp_i (v := 1) (by decide) ?_
    refine va_sld hx hb hX hbl hbA hS (by unfold vp_in; decide) dL_law_1722 ?_
    refine tp_i (v := s1) h1 ?_
    refine kc_i (va_runV (As := [.int s1]) (rest := [.int 0]) ⟨hx, hb, hml, hown, hB⟩ (c225_X12_keep l D ty H.size m0 (qm 0) (qm 23) (qm 1) s1 (.int 0) (.ref (qm 2)) (.int 0) (.ref (qm 3)) (.int 0) (.int 0) (.int 0) (.int 0) (.int 0) (.int 0) (.int (-1)) (.ref (qm 4)) (.ref (qm 5)) (.ref (qm 6)) (.ref (qm 7)) (.ref (qm 8)) (.ref (qm 9)) (.ref (qm 10)) (.ref (qm 11)) (.ref (qm 12)) (.int 0) (.ref (qm 13)) (.int 0) (.ref (qm 14)) (.int 0) (.ref (qm 15)) (.ref (qm 16)) (.ref (qm 17)) (.int 0) (.ref (qm 18)) (.int 0) (.ref (qm 19)) (.ref (qm 20)) (.ref (qm 21)) (.ref (qm 22)) (kf 0) (upd (upd (kf 0) 1 2) 4 (-1)) (kf 0)) (cwV 1 hB (bw_V mw_968 mw_969 mw_970 mw_211 mw_967) rfl rfl rfl (by decide +kernel) ⟨Nat.le_of_ble_eq_true rfl, Nat.le_of_ble_eq_true rfl⟩) (kp_V hK hP hD [0, 1, 24, 2] (by decide) rfl 0 rfl rfl rfl) rfl rfl hl.1 rfl (lv_room (Nat.le_of_ble_eq_true rfl)) dL_law_1723 ⟨Nat.le_of_ble_eq_true rfl, Nat.le_of_ble_eq_true rfl⟩) hP hD hS hA [0, 1, 24, 2] [] (wr := []) rfl rfl (by decide) (by decide) (fun r u H locs w7 hP hD hS => ?_)
    rcases w7 with ⟨c8, rfl, rfl⟩ | ⟨c9, rfl, rfl⟩
    · have hP : va_P D vwCl [] H := hP
      have hD : va_D (fun q : Nat => s.heap.size ≤ q) [] := hD
      refine lv_icmp_eq (tgt := 1933) hx hb dL_law_1726 (by decide) (fun _ => ?_) (fun h9 => absurd (by decide) h9)
      refine lv_iinc (v := 6) (lv' := [(3, .int 6), (2, .ref m0), (1, .ref x0), (0, .ref b)]) hx hb dL_law_1933 hl (k := 0) rfl (by decide) (by decide) rfl (fun ls hl => ?_)
      refine lv_goto (tgt := 18) hx hb dL_law_1936 (by decide) ?_
      exact law_end l (Nat.le_refl 6) C0 hS (lv_sub hl [0, 3] rfl)
    · exact (ps_52 s1 c3 c9).elim

set_option maxHeartbeats 4000000 in
set_option maxRecDepth 100000 in
theorem br_51 {p : Program} {e : Env} {s : State} {m : MethodId} {below : List Frame} {meth : Method} {c : Code} (l : Launch) {b : Nat} {xs : Nat → Int32} (C0 : lw_At p s m meth c b 6 xs) (D : va_G) (ty : Nat → ClassId) (hK : kK D ty s) (x0 m0 : Nat) (qx qm : Nat → Nat) {H : Heap} {locs : List Loc} {ls : Array Slot} (hP : va_P D vwCl (lawW ty x0 m0 qx qm) H) (hD : va_D (fun q : Nat => s.heap.size ≤ q) (lawW ty x0 m0 qx qm)) (hS : va_S (fun q : Nat => s.heap.size ≤ q) s.heap H locs) (hl : lv_has ls 4 [(3, .int 0), (2, .ref m0), (1, .ref x0), (0, .ref b)]) :
    W p l e room_1 s m #[Value.ref b] below meth c H locs 200 10000 (lw_Z below #[Value.ref b] s) (F0 m 1731 ls []) := by
  obtain ⟨hx, hb, hr, hml, hown0, hts, hX, hbl, hlocks, hgv⟩ := id C0
  have hown : s.vm.findClass RL = some m.cls := hown0
  have hB : ∀ w ∈ bW, w.before #[Value.ref b] s = true := fun w h => hts w (bW_lw h)
  have hA : ∀ q : Nat, s.heap.size ≤ q → (fun q : Nat => s.heap.size ≤ q) q := fun _ h => h
  have hbA : ¬ (fun q : Nat => s.heap.size ≤ q) b := Nat.not_le.mpr hbl
  obtain ⟨s1, h1⟩ : ∃ y, xs 1 = y := ⟨_, rfl⟩
  obtain ⟨s2, h2⟩ : ∃ y, xs 2 = y := ⟨_, rfl⟩
  obtain ⟨s3, h3⟩ : ∃ y, xs 3 = y := ⟨_, rfl⟩
  obtain ⟨s4, h4⟩ : ∃ y, xs 4 = y := ⟨_, rfl⟩
  obtain ⟨s5, h5⟩ : ∃ y, xs 5 = y := ⟨_, rfl⟩
  refine lv_aload_n hx hb dL_law_1731 rfl (lv_at hl 2 rfl) ?_
  refine lv_aload_n hx hb dL_law_1732 rfl (lv_at hl 3 rfl) ?_
  refine lv_iload_n hx hb dL_law_1733 rfl (lv_at hl 0 rfl) ?_
  refine lv_iconst (v := 1) hx hb dL_law_1734 (by decide) ?_
  refine lv_iadd hx hb dL_law_1735 ?_
  refine tp_i (v := 1) (by decide) ?_
  refine va_sld hx hb hX hbl hbA hS (by unfold vp_in; decide) dL_law_1736 ?_
  refine tp_i (v := s1) h1 ?_
  refine kc_i (va_runV (As := [.int s1]) (rest := []) ⟨hx, hb, hml, hown, hB⟩ (c135_X11_back l D ty H.size x0 (qx 35) (qx 51) (qx 70) (qx 89) s1 (.ref (qx 0)) (.int 0) (.ref (qx 1)) (.ref (qx 19)) (.ref (qx 36)) (.ref (qx 119)) (.ref (qx 42)) (.ref (qx 44)) (.ref (qx 45)) (.ref (qx 50)) (.int (-1)) (.int (-1)) (.int (-1)) (.int (-1)) (.ref (qx 52)) (.ref (qx 67)) (.ref (qx 71)) (.ref (qx 86)) (.ref (qx 90)) (.ref (qx 105))) (cwV 1 hB (bw_V mw_972 mw_973 mw_974 mw_216 mw_971) rfl rfl rfl (by decide +kernel) ⟨Nat.le_of_ble_eq_true rfl, Nat.le_of_ble_eq_true rfl⟩) (kp_V hK hP hD [0, 36, 52, 71, 90] (by decide) rfl 0 rfl rfl rfl) rfl rfl hl.1 rfl (lv_room (Nat.le_of_ble_eq_true rfl)) dL_law_1737 ⟨Nat.le_of_ble_eq_true rfl, Nat.le_of_ble_eq_true rfl⟩) hP hD hS hA [0, 36, 52, 71, 90] [122, 123, 124, 125, 126, 127, 128, 129, 130, 131, 132, 133, 134, 135, 136, 137, 138, 139, 140, 141, 142, 143, 144, 145, 146] (wr := [(m0, .inr (12, [.int 0, .ref (qm 23), .ref (qm 0), .ref (qm 1), .ref (qm 2), .int 0, .ref (qm 3), .int 0, .int 0, .int 0, .int 0, .int 0, .int 0, .int (-1), .ref (qm 4), .ref (qm 5), .ref (qm 6), .ref (qm 7), .ref (qm 8), .ref (qm 9), .ref (qm 10), .ref (qm 11), .ref (qm 12), .int 0, .ref (qm 13), .int 0, .ref (qm 14), .int 0, .ref (qm 15), .ref (qm 16), .ref (qm 17), .int 0, .ref (qm 18), .int 0, .ref (qm 19), .ref (qm 20), .ref (qm 21), .ref (qm 22)])), ((qm 0), .inl (ty 1, 912, .inl (kf 0))), ((qm 1), .inl (ty 3, 3, .inl (kf 0))), ((qm 2), .inl (ty 0, 800, .inl (kf 0))), ((qm 3), .inl (ty 1, 5, .inl (kf 0))), ((qm 4), .inl (ty 1, 304, .inl (kf 0))), ((qm 5), .inl (ty 3, 28, .inl (kf 0))), ((qm 6), .inl (ty 1, 28, .inl (kf 0))), ((qm 7), .inl (ty 1, 256, .inl (kf 0))), ((qm 8), .inl (ty 1, 256, .inl (kf 0))), ((qm 9), .inl (ty 3, 16, .inl (kf 0))), ((qm 10), .inl (ty 1, 28, .inl (kf 0))), ((qm 11), .inl (ty 1, 28, .inl (kf 0))), ((qm 12), .inl (ty 1, 44, .inl (kf 0))), ((qm 13), .inl (ty 1, 2, .inl (kf 0))), ((qm 14), .inl (ty 1, 9, .inl (kf 0))), ((qm 15), .inl (ty 1, 512, .inl (kf 0))), ((qm 16), .inl (ty 1, 512, .inl (kf 0))), ((qm 17), .inl (ty 1, 16, .inl (kf 0))), ((qm 18), .inl (ty 1, 2, .inl (kf 0))), ((qm 19), .inl (ty 1, 4, .inl (upd (upd (upd (upd (kf 0) 0 (-1)) 1 (-1)) 2 (-1)) 3 (-1)))), ((qm 20), .inl (ty 1, 4, .inl (kf 0))), ((qm 21), .inl (ty 2, 240, .inr (.inl (kj 0)))), ((qm 22), .inl (ty 2, 60, .inr (.inl (kj 0)))), ((qm 23), .inl (ty 1, 304, .inl (upd (upd (kf 0) 1 2) 4 (-1))))]) rfl rfl (by decide) (by decide) (fun r u H locs w1 hP hD hS => ?_)
  rcases w1 with ⟨c2, rfl, rfl⟩ | ⟨c3, rfl, rfl⟩
  · have hP : va_P D vwCl [(m0, .inr (12, [.int 0, .ref (qm 23), .ref (qm 0), .ref (qm 1), .ref (qm 2), .int 0, .ref (qm 3), .int 0, .int 0, .int 0, .int 0, .int 0, .int 0, .int (-1), .ref (qm 4), .ref (qm 5), .ref (qm 6), .ref (qm 7), .ref (qm 8), .ref (qm 9), .ref (qm 10), .ref (qm 11), .ref (qm 12), .int 0, .ref (qm 13), .int 0, .ref (qm 14), .int 0, .ref (qm 15), .ref (qm 16), .ref (qm 17), .int 0, .ref (qm 18), .int 0, .ref (qm 19), .ref (qm 20), .ref (qm 21), .ref (qm 22)])), ((qm 0), .inl (ty 1, 912, .inl (kf 0))), ((qm 1), .inl (ty 3, 3, .inl (kf 0))), ((qm 2), .inl (ty 0, 800, .inl (kf 0))), ((qm 3), .inl (ty 1, 5, .inl (kf 0))), ((qm 4), .inl (ty 1, 304, .inl (kf 0))), ((qm 5), .inl (ty 3, 28, .inl (kf 0))), ((qm 6), .inl (ty 1, 28, .inl (kf 0))), ((qm 7), .inl (ty 1, 256, .inl (kf 0))), ((qm 8), .inl (ty 1, 256, .inl (kf 0))), ((qm 9), .inl (ty 3, 16, .inl (kf 0))), ((qm 10), .inl (ty 1, 28, .inl (kf 0))), ((qm 11), .inl (ty 1, 28, .inl (kf 0))), ((qm 12), .inl (ty 1, 44, .inl (kf 0))), ((qm 13), .inl (ty 1, 2, .inl (kf 0))), ((qm 14), .inl (ty 1, 9, .inl (kf 0))), ((qm 15), .inl (ty 1, 512, .inl (kf 0))), ((qm 16), .inl (ty 1, 512, .inl (kf 0))), ((qm 17), .inl (ty 1, 16, .inl (kf 0))), ((qm 18), .inl (ty 1, 2, .inl (kf 0))), ((qm 19), .inl (ty 1, 4, .inl (upd (upd (upd (upd (kf 0) 0 (-1)) 1 (-1)) 2 (-1)) 3 (-1)))), ((qm 20), .inl (ty 1, 4, .inl (kf 0))), ((qm 21), .inl (ty 2, 240, .inr (.inl (kj 0)))), ((qm 22), .inl (ty 2, 60, .inr (.inl (kj 0)))), ((qm 23), .inl (ty 1, 304, .inl (upd (upd (kf 0) 1 2) 4 (-1))))] H := hP
    have hD : va_D (fun q : Nat => s.heap.size ≤ q) [(m0, .inr (12, [.int 0, .ref (qm 23), .ref (qm 0), .ref (qm 1), .ref (qm 2), .int 0, .ref (qm 3), .int 0, .int 0, .int 0, .int 0, .int 0, .int 0, .int (-1), .ref (qm 4), .ref (qm 5), .ref (qm 6), .ref (qm 7), .ref (qm 8), .ref (qm 9), .ref (qm 10), .ref (qm 11), .ref (qm 12), .int 0, .ref (qm 13), .int 0, .ref (qm 14), .int 0, .ref (qm 15), .ref (qm 16), .ref (qm 17), .int 0, .ref (qm 18), .int 0, .ref (qm 19), .ref (qm 20), .ref (qm 21), .ref (qm 22)])), ((qm 0), .inl (ty 1, 912, .inl (kf 0))), ((qm 1), .inl (ty 3, 3, .inl (kf 0))), ((qm 2), .inl (ty 0, 800, .inl (kf 0))), ((qm 3), .inl (ty 1, 5, .inl (kf 0))), ((qm 4), .inl (ty 1, 304, .inl (kf 0))), ((qm 5), .inl (ty 3, 28, .inl (kf 0))), ((qm 6), .inl (ty 1, 28, .inl (kf 0))), ((qm 7), .inl (ty 1, 256, .inl (kf 0))), ((qm 8), .inl (ty 1, 256, .inl (kf 0))), ((qm 9), .inl (ty 3, 16, .inl (kf 0))), ((qm 10), .inl (ty 1, 28, .inl (kf 0))), ((qm 11), .inl (ty 1, 28, .inl (kf 0))), ((qm 12), .inl (ty 1, 44, .inl (kf 0))), ((qm 13), .inl (ty 1, 2, .inl (kf 0))), ((qm 14), .inl (ty 1, 9, .inl (kf 0))), ((qm 15), .inl (ty 1, 512, .inl (kf 0))), ((qm 16), .inl (ty 1, 512, .inl (kf 0))), ((qm 17), .inl (ty 1, 16, .inl (kf 0))), ((qm 18), .inl (ty 1, 2, .inl (kf 0))), ((qm 19), .inl (ty 1, 4, .inl (upd (upd (upd (upd (kf 0) 0 (-1)) 1 (-1)) 2 (-1)) 3 (-1)))), ((qm 20), .inl (ty 1, 4, .inl (kf 0))), ((qm 21), .inl (ty 2, 240, .inr (.inl (kj 0)))), ((qm 22), .inl (ty 2, 60, .inr (.inl (kj 0)))), ((qm 23), .inl (ty 1, 304, .inl (upd (upd (kf 0) 1 2) 4 (-1))))] := hD
    refine lv_aload_n hx hb dL_law_1740 rfl (lv_at hl 1 rfl) ?_
    refine lv_aload_n hx hb dL_law_1741 rfl (lv_at hl 3 rfl) ?_
    refine lv_iload_n hx hb dL_law_1742 rfl (lv_at hl 0 rfl) ?_
    refine lv_iconst (v := 1) hx hb dL_law_1743 (by decide) ?_
    refine lv_iadd hx hb dL_law_1744 ?_
    refine tp_i (v := 1) (by decide) ?_
    refine va_sld hx hb hX hbl hbA hS (by unfold vp_in; decide) dL_law_1745 ?_
    refine tp_i (v := s1) h1 ?_
    refine kc_i (va_runV (As := [.int s1]) (rest := [.int (-2)]) ⟨hx, hb, hml, hown, hB⟩ (c226_X12_back l D ty H.size m0 (qm 1) s1 (.int 0) (.ref (qm 23)) (.ref (qm 0)) (.ref (qm 2)) (.int 0) (.ref (qm 3)) (.int 0) (.int 0) (.int 0) (.int 0) (.int 0) (.int 0) (.int (-1)) (.ref (qm 4)) (.ref (qm 5)) (.ref (qm 6)) (.ref (qm 7)) (.ref (qm 8)) (.ref (qm 9)) (.ref (qm 10)) (.ref (qm 11)) (.ref (qm 12)) (.int 0) (.ref (qm 13)) (.int 0) (.ref (qm 14)) (.int 0) (.ref (qm 15)) (.ref (qm 16)) (.ref (qm 17)) (.int 0) (.ref (qm 18)) (.int 0) (.ref (qm 19)) (.ref (qm 20)) (.ref (qm 21)) (.ref (qm 22))) (cwV 1 hB (bw_V mw_976 mw_977 mw_978 mw_211 mw_975) rfl rfl rfl (by decide +kernel) ⟨Nat.le_of_ble_eq_true rfl, Nat.le_of_ble_eq_true rfl⟩) (kp_V hK hP hD [0, 2] (by decide) rfl 0 rfl rfl rfl) rfl rfl hl.1 rfl (lv_room (Nat.le_of_ble_eq_true rfl)) dL_law_1746 ⟨Nat.le_of_ble_eq_true rfl, Nat.le_of_ble_eq_true rfl⟩) hP hD hS hA [0, 2] [] (wr := []) rfl rfl (by decide) (by decide) (fun r u H locs w4 hP hD hS => ?_)
    rcases w4 with ⟨c5, rfl, rfl⟩ | ⟨c6, rfl, rfl⟩
    · exact (ps_51 s1 c2 c5).elim
    · have hP : va_P D vwCl [] H := hP
      have hD : va_D (fun q : Nat => s.heap.size ≤ q) [] := hD
      refine lv_icmp_eq (tgt := 1933) hx hb dL_law_1749 (by decide) (fun _ => ?_) (fun h9 => absurd (by decide) h9)
      refine lv_iinc (v := 6) (lv' := [(3, .int 6), (2, .ref m0), (1, .ref x0), (0, .ref b)]) hx hb dL_law_1933 hl (k := 0) rfl (by decide) (by decide) rfl (fun ls hl => ?_)
      refine lv_goto (tgt := 18) hx hb dL_law_1936 (by decide) ?_
      exact law_end l (Nat.le_refl 6) C0 hS (lv_sub hl [0, 3] rfl)
  · have hP : va_P D vwCl [(m0, .inr (12, [.int 0, .ref (qm 23), .ref (qm 0), .ref (qm 1), .ref (qm 2), .int 0, .ref (qm 3), .int 0, .int 0, .int 0, .int 0, .int 0, .int 0, .int (-1), .ref (qm 4), .ref (qm 5), .ref (qm 6), .ref (qm 7), .ref (qm 8), .ref (qm 9), .ref (qm 10), .ref (qm 11), .ref (qm 12), .int 0, .ref (qm 13), .int 0, .ref (qm 14), .int 0, .ref (qm 15), .ref (qm 16), .ref (qm 17), .int 0, .ref (qm 18), .int 0, .ref (qm 19), .ref (qm 20), .ref (qm 21), .ref (qm 22)])), ((qm 0), .inl (ty 1, 912, .inl (kf 0))), ((qm 1), .inl (ty 3, 3, .inl (kf 0))), ((qm 2), .inl (ty 0, 800, .inl (kf 0))), ((qm 3), .inl (ty 1, 5, .inl (kf 0))), ((qm 4), .inl (ty 1, 304, .inl (kf 0))), ((qm 5), .inl (ty 3, 28, .inl (kf 0))), ((qm 6), .inl (ty 1, 28, .inl (kf 0))), ((qm 7), .inl (ty 1, 256, .inl (kf 0))), ((qm 8), .inl (ty 1, 256, .inl (kf 0))), ((qm 9), .inl (ty 3, 16, .inl (kf 0))), ((qm 10), .inl (ty 1, 28, .inl (kf 0))), ((qm 11), .inl (ty 1, 28, .inl (kf 0))), ((qm 12), .inl (ty 1, 44, .inl (kf 0))), ((qm 13), .inl (ty 1, 2, .inl (kf 0))), ((qm 14), .inl (ty 1, 9, .inl (kf 0))), ((qm 15), .inl (ty 1, 512, .inl (kf 0))), ((qm 16), .inl (ty 1, 512, .inl (kf 0))), ((qm 17), .inl (ty 1, 16, .inl (kf 0))), ((qm 18), .inl (ty 1, 2, .inl (kf 0))), ((qm 19), .inl (ty 1, 4, .inl (upd (upd (upd (upd (kf 0) 0 (-1)) 1 (-1)) 2 (-1)) 3 (-1)))), ((qm 20), .inl (ty 1, 4, .inl (kf 0))), ((qm 21), .inl (ty 2, 240, .inr (.inl (kj 0)))), ((qm 22), .inl (ty 2, 60, .inr (.inl (kj 0)))), ((qm 23), .inl (ty 1, 304, .inl (upd (upd (kf 0) 1 2) 4 (-1))))] H := hP
    have hD : va_D (fun q : Nat => s.heap.size ≤ q) [(m0, .inr (12, [.int 0, .ref (qm 23), .ref (qm 0), .ref (qm 1), .ref (qm 2), .int 0, .ref (qm 3), .int 0, .int 0, .int 0, .int 0, .int 0, .int 0, .int (-1), .ref (qm 4), .ref (qm 5), .ref (qm 6), .ref (qm 7), .ref (qm 8), .ref (qm 9), .ref (qm 10), .ref (qm 11), .ref (qm 12), .int 0, .ref (qm 13), .int 0, .ref (qm 14), .int 0, .ref (qm 15), .ref (qm 16), .ref (qm 17), .int 0, .ref (qm 18), .int 0, .ref (qm 19), .ref (qm 20), .ref (qm 21), .ref (qm 22)])), ((qm 0), .inl (ty 1, 912, .inl (kf 0))), ((qm 1), .inl (ty 3, 3, .inl (kf 0))), ((qm 2), .inl (ty 0, 800, .inl (kf 0))), ((qm 3), .inl (ty 1, 5, .inl (kf 0))), ((qm 4), .inl (ty 1, 304, .inl (kf 0))), ((qm 5), .inl (ty 3, 28, .inl (kf 0))), ((qm 6), .inl (ty 1, 28, .inl (kf 0))), ((qm 7), .inl (ty 1, 256, .inl (kf 0))), ((qm 8), .inl (ty 1, 256, .inl (kf 0))), ((qm 9), .inl (ty 3, 16, .inl (kf 0))), ((qm 10), .inl (ty 1, 28, .inl (kf 0))), ((qm 11), .inl (ty 1, 28, .inl (kf 0))), ((qm 12), .inl (ty 1, 44, .inl (kf 0))), ((qm 13), .inl (ty 1, 2, .inl (kf 0))), ((qm 14), .inl (ty 1, 9, .inl (kf 0))), ((qm 15), .inl (ty 1, 512, .inl (kf 0))), ((qm 16), .inl (ty 1, 512, .inl (kf 0))), ((qm 17), .inl (ty 1, 16, .inl (kf 0))), ((qm 18), .inl (ty 1, 2, .inl (kf 0))), ((qm 19), .inl (ty 1, 4, .inl (upd (upd (upd (upd (kf 0) 0 (-1)) 1 (-1)) 2 (-1)) 3 (-1)))), ((qm 20), .inl (ty 1, 4, .inl (kf 0))), ((qm 21), .inl (ty 2, 240, .inr (.inl (kj 0)))), ((qm 22), .inl (ty 2, 60, .inr (.inl (kj 0)))), ((qm 23), .inl (ty 1, 304, .inl (upd (upd (kf 0) 1 2) 4 (-1))))] := hD
    refine lv_aload_n hx hb dL_law_1740 rfl (lv_at hl 1 rfl) ?_
    refine lv_aload_n hx hb dL_law_1741 rfl (lv_at hl 3 rfl) ?_
    refine lv_iload_n hx hb dL_law_1742 rfl (lv_at hl 0 rfl) ?_
    refine lv_iconst (v := 1) hx hb dL_law_1743 (by decide) ?_
    refine lv_iadd hx hb dL_law_1744 ?_
    refine tp_i (v := 1) (by decide) ?_
    refine va_sld hx hb hX hbl hbA hS (by unfold vp_in; decide) dL_law_1745 ?_
    refine tp_i (v := s1) h1 ?_
    refine kc_i (va_runV (As := [.int s1]) (rest := [.int (-6)]) ⟨hx, hb, hml, hown, hB⟩ (c226_X12_back l D ty H.size m0 (qm 1) s1 (.int 0) (.ref (qm 23)) (.ref (qm 0)) (.ref (qm 2)) (.int 0) (.ref (qm 3)) (.int 0) (.int 0) (.int 0) (.int 0) (.int 0) (.int 0) (.int (-1)) (.ref (qm 4)) (.ref (qm 5)) (.ref (qm 6)) (.ref (qm 7)) (.ref (qm 8)) (.ref (qm 9)) (.ref (qm 10)) (.ref (qm 11)) (.ref (qm 12)) (.int 0) (.ref (qm 13)) (.int 0) (.ref (qm 14)) (.int 0) (.ref (qm 15)) (.ref (qm 16)) (.ref (qm 17)) (.int 0) (.ref (qm 18)) (.int 0) (.ref (qm 19)) (.ref (qm 20)) (.ref (qm 21)) (.ref (qm 22))) (cwV 1 hB (bw_V mw_976 mw_977 mw_978 mw_211 mw_975) rfl rfl rfl (by decide +kernel) ⟨Nat.le_of_ble_eq_true rfl, Nat.le_of_ble_eq_true rfl⟩) (kp_V hK hP hD [0, 2] (by decide) rfl 0 rfl rfl rfl) rfl rfl hl.1 rfl (lv_room (Nat.le_of_ble_eq_true rfl)) dL_law_1746 ⟨Nat.le_of_ble_eq_true rfl, Nat.le_of_ble_eq_true rfl⟩) hP hD hS hA [0, 2] [] (wr := []) rfl rfl (by decide) (by decide) (fun r u H locs w7 hP hD hS => ?_)
    rcases w7 with ⟨c8, rfl, rfl⟩ | ⟨c9, rfl, rfl⟩
    · have hP : va_P D vwCl [] H := hP
      have hD : va_D (fun q : Nat => s.heap.size ≤ q) [] := hD
      refine lv_icmp_eq (tgt := 1933) hx hb dL_law_1749 (by decide) (fun _ => ?_) (fun h9 => absurd (by decide) h9)
      refine lv_iinc (v := 6) (lv' := [(3, .int 6), (2, .ref m0), (1, .ref x0), (0, .ref b)]) hx hb dL_law_1933 hl (k := 0) rfl (by decide) (by decide) rfl (fun ls hl => ?_)
      refine lv_goto (tgt := 18) hx hb dL_law_1936 (by decide) ?_
      exact law_end l (Nat.le_refl 6) C0 hS (lv_sub hl [0, 3] rfl)
    · exact (ps_52 s1 c3 c9).elim

set_option maxHeartbeats 4000000 in
set_option maxRecDepth 100000 in
theorem br_52 {p : Program} {e : Env} {s : State} {m : MethodId} {below : List Frame} {meth : Method} {c : Code} (l : Launch) {b : Nat} {xs : Nat → Int32} (C0 : lw_At p s m meth c b 6 xs) (D : va_G) (ty : Nat → ClassId) (hK : kK D ty s) (x0 m0 : Nat) (qx qm : Nat → Nat) {H : Heap} {locs : List Loc} {ls : Array Slot} (hP : va_P D vwCl (lawW ty x0 m0 qx qm) H) (hD : va_D (fun q : Nat => s.heap.size ≤ q) (lawW ty x0 m0 qx qm)) (hS : va_S (fun q : Nat => s.heap.size ≤ q) s.heap H locs) (hl : lv_has ls 4 [(3, .int 0), (2, .ref m0), (1, .ref x0), (0, .ref b)]) :
    W p l e room_1 s m #[Value.ref b] below meth c H locs 200 10000 (lw_Z below #[Value.ref b] s) (F0 m 1754 ls []) := by
  obtain ⟨hx, hb, hr, hml, hown0, hts, hX, hbl, hlocks, hgv⟩ := id C0
  have hown : s.vm.findClass RL = some m.cls := hown0
  have hB : ∀ w ∈ bW, w.before #[Value.ref b] s = true := fun w h => hts w (bW_lw h)
  have hA : ∀ q : Nat, s.heap.size ≤ q → (fun q : Nat => s.heap.size ≤ q) q := fun _ h => h
  have hbA : ¬ (fun q : Nat => s.heap.size ≤ q) b := Nat.not_le.mpr hbl
  obtain ⟨s1, h1⟩ : ∃ y, xs 1 = y := ⟨_, rfl⟩
  obtain ⟨s2, h2⟩ : ∃ y, xs 2 = y := ⟨_, rfl⟩
  obtain ⟨s3, h3⟩ : ∃ y, xs 3 = y := ⟨_, rfl⟩
  obtain ⟨s4, h4⟩ : ∃ y, xs 4 = y := ⟨_, rfl⟩
  obtain ⟨s5, h5⟩ : ∃ y, xs 5 = y := ⟨_, rfl⟩
  refine lv_aload_n hx hb dL_law_1754 rfl (lv_at hl 2 rfl) ?_
  refine lv_aload_n hx hb dL_law_1755 rfl (lv_at hl 3 rfl) ?_
  refine lv_iload_n hx hb dL_law_1756 rfl (lv_at hl 0 rfl) ?_
  refine lv_iconst (v := 1) hx hb dL_law_1757 (by decide) ?_
  refine lv_iadd hx hb dL_law_1758 ?_
  refine tp_i (v := 1) (by decide) ?_
  refine va_sld hx hb hX hbl hbA hS (by unfold vp_in; decide) dL_law_1759 ?_
  refine tp_i (v := s1) h1 ?_
  refine lv_aload_n hx hb dL_law_1760 rfl (lv_at hl 3 rfl) ?_
  refine lv_iload_n hx hb dL_law_1761 rfl (lv_at hl 0 rfl) ?_
  refine lv_iconst (v := 2) hx hb dL_law_1762 (by decide) ?_
  refine lv_iadd hx hb dL_law_1763 ?_
  refine tp_i (v := 2) (by decide) ?_
  refine va_sld hx hb hX hbl hbA hS (by unfold vp_in; decide) dL_law_1764 ?_
  refine tp_i (v := s2) h2 ?_
  refine lv_aload_n hx hb dL_law_1765 rfl (lv_at hl 3 rfl) ?_
  refine lv_iload_n hx hb dL_law_1766 rfl (lv_at hl 0 rfl) ?_
  refine lv_iconst (v := 3) hx hb dL_law_1767 (by decide) ?_
  refine lv_iadd hx hb dL_law_1768 ?_
  refine tp_i (v := 3) (by decide) ?_
  refine va_sld hx hb hX hbl hbA hS (by unfold vp_in; decide) dL_law_1769 ?_
  refine tp_i (v := s3) h3 ?_
  refine kc_i (va_runV (As := [.int s1, .int s2, .int s3]) (rest := []) ⟨hx, hb, hml, hown, hB⟩ (c136_X11_row l D ty H.size x0 (qx 36) (qx 108) (qx 109) (qx 110) (qx 111) (qx 112) (qx 113) (qx 114) (qx 115) s1 s2 s3 (.ref (qx 0)) (.int 0) (.ref (qx 1)) (.ref (qx 19)) (.ref (qx 35)) (.ref (qx 119)) (.ref (qx 42)) (.ref (qx 44)) (.ref (qx 45)) (.ref (qx 50)) (.int (-1)) (.int (-1)) (.int (-1)) (.int (-1)) (.int (-1)) (.int 0) (kj 0) (.int (-1)) (.int 0) (kj 0) (.int (-1)) (.int 0) (kj 0) (.int (-1)) (.int 0) (kj 0)) (cwV 3 hB (bw_V mw_980 mw_981 mw_982 mw_216 mw_979) rfl rfl rfl (by decide +kernel) ⟨Nat.le_of_ble_eq_true rfl, Nat.le_of_ble_eq_true rfl⟩) (kp_V hK hP hD [0, 37, 109, 110, 111, 112, 113, 114, 115, 116] (by decide) rfl 0 rfl rfl rfl) rfl rfl hl.1 rfl (lv_room (Nat.le_of_ble_eq_true rfl)) dL_law_1770 ⟨Nat.le_of_ble_eq_true rfl, Nat.le_of_ble_eq_true rfl⟩) hP hD hS hA [0, 37, 109, 110, 111, 112, 113, 114, 115, 116] [122, 123, 124, 125, 126, 127, 128, 129, 130, 131, 132, 133, 134, 135, 136, 137, 138, 139, 140, 141, 142, 143, 144, 145, 146] (wr := [(m0, .inr (12, [.int 0, .ref (qm 23), .ref (qm 0), .ref (qm 1), .ref (qm 2), .int 0, .ref (qm 3), .int 0, .int 0, .int 0, .int 0, .int 0, .int 0, .int (-1), .ref (qm 4), .ref (qm 5), .ref (qm 6), .ref (qm 7), .ref (qm 8), .ref (qm 9), .ref (qm 10), .ref (qm 11), .ref (qm 12), .int 0, .ref (qm 13), .int 0, .ref (qm 14), .int 0, .ref (qm 15), .ref (qm 16), .ref (qm 17), .int 0, .ref (qm 18), .int 0, .ref (qm 19), .ref (qm 20), .ref (qm 21), .ref (qm 22)])), ((qm 0), .inl (ty 1, 912, .inl (kf 0))), ((qm 1), .inl (ty 3, 3, .inl (kf 0))), ((qm 2), .inl (ty 0, 800, .inl (kf 0))), ((qm 3), .inl (ty 1, 5, .inl (kf 0))), ((qm 4), .inl (ty 1, 304, .inl (kf 0))), ((qm 5), .inl (ty 3, 28, .inl (kf 0))), ((qm 6), .inl (ty 1, 28, .inl (kf 0))), ((qm 7), .inl (ty 1, 256, .inl (kf 0))), ((qm 8), .inl (ty 1, 256, .inl (kf 0))), ((qm 9), .inl (ty 3, 16, .inl (kf 0))), ((qm 10), .inl (ty 1, 28, .inl (kf 0))), ((qm 11), .inl (ty 1, 28, .inl (kf 0))), ((qm 12), .inl (ty 1, 44, .inl (kf 0))), ((qm 13), .inl (ty 1, 2, .inl (kf 0))), ((qm 14), .inl (ty 1, 9, .inl (kf 0))), ((qm 15), .inl (ty 1, 512, .inl (kf 0))), ((qm 16), .inl (ty 1, 512, .inl (kf 0))), ((qm 17), .inl (ty 1, 16, .inl (kf 0))), ((qm 18), .inl (ty 1, 2, .inl (kf 0))), ((qm 19), .inl (ty 1, 4, .inl (upd (upd (upd (upd (kf 0) 0 (-1)) 1 (-1)) 2 (-1)) 3 (-1)))), ((qm 20), .inl (ty 1, 4, .inl (kf 0))), ((qm 21), .inl (ty 2, 240, .inr (.inl (kj 0)))), ((qm 22), .inl (ty 2, 60, .inr (.inl (kj 0)))), ((qm 23), .inl (ty 1, 304, .inl (upd (upd (kf 0) 1 2) 4 (-1))))]) rfl rfl (by decide) (by decide) (fun r u H locs w1 hP hD hS => ?_)
  rcases w1 with ⟨c2, rfl, rfl⟩ | ⟨c3, rfl, rfl⟩ | ⟨c4, rfl, rfl⟩
  · have hP : va_P D vwCl [(m0, .inr (12, [.int 0, .ref (qm 23), .ref (qm 0), .ref (qm 1), .ref (qm 2), .int 0, .ref (qm 3), .int 0, .int 0, .int 0, .int 0, .int 0, .int 0, .int (-1), .ref (qm 4), .ref (qm 5), .ref (qm 6), .ref (qm 7), .ref (qm 8), .ref (qm 9), .ref (qm 10), .ref (qm 11), .ref (qm 12), .int 0, .ref (qm 13), .int 0, .ref (qm 14), .int 0, .ref (qm 15), .ref (qm 16), .ref (qm 17), .int 0, .ref (qm 18), .int 0, .ref (qm 19), .ref (qm 20), .ref (qm 21), .ref (qm 22)])), ((qm 0), .inl (ty 1, 912, .inl (kf 0))), ((qm 1), .inl (ty 3, 3, .inl (kf 0))), ((qm 2), .inl (ty 0, 800, .inl (kf 0))), ((qm 3), .inl (ty 1, 5, .inl (kf 0))), ((qm 4), .inl (ty 1, 304, .inl (kf 0))), ((qm 5), .inl (ty 3, 28, .inl (kf 0))), ((qm 6), .inl (ty 1, 28, .inl (kf 0))), ((qm 7), .inl (ty 1, 256, .inl (kf 0))), ((qm 8), .inl (ty 1, 256, .inl (kf 0))), ((qm 9), .inl (ty 3, 16, .inl (kf 0))), ((qm 10), .inl (ty 1, 28, .inl (kf 0))), ((qm 11), .inl (ty 1, 28, .inl (kf 0))), ((qm 12), .inl (ty 1, 44, .inl (kf 0))), ((qm 13), .inl (ty 1, 2, .inl (kf 0))), ((qm 14), .inl (ty 1, 9, .inl (kf 0))), ((qm 15), .inl (ty 1, 512, .inl (kf 0))), ((qm 16), .inl (ty 1, 512, .inl (kf 0))), ((qm 17), .inl (ty 1, 16, .inl (kf 0))), ((qm 18), .inl (ty 1, 2, .inl (kf 0))), ((qm 19), .inl (ty 1, 4, .inl (upd (upd (upd (upd (kf 0) 0 (-1)) 1 (-1)) 2 (-1)) 3 (-1)))), ((qm 20), .inl (ty 1, 4, .inl (kf 0))), ((qm 21), .inl (ty 2, 240, .inr (.inl (kj 0)))), ((qm 22), .inl (ty 2, 60, .inr (.inl (kj 0)))), ((qm 23), .inl (ty 1, 304, .inl (upd (upd (kf 0) 1 2) 4 (-1))))] H := hP
    have hD : va_D (fun q : Nat => s.heap.size ≤ q) [(m0, .inr (12, [.int 0, .ref (qm 23), .ref (qm 0), .ref (qm 1), .ref (qm 2), .int 0, .ref (qm 3), .int 0, .int 0, .int 0, .int 0, .int 0, .int 0, .int (-1), .ref (qm 4), .ref (qm 5), .ref (qm 6), .ref (qm 7), .ref (qm 8), .ref (qm 9), .ref (qm 10), .ref (qm 11), .ref (qm 12), .int 0, .ref (qm 13), .int 0, .ref (qm 14), .int 0, .ref (qm 15), .ref (qm 16), .ref (qm 17), .int 0, .ref (qm 18), .int 0, .ref (qm 19), .ref (qm 20), .ref (qm 21), .ref (qm 22)])), ((qm 0), .inl (ty 1, 912, .inl (kf 0))), ((qm 1), .inl (ty 3, 3, .inl (kf 0))), ((qm 2), .inl (ty 0, 800, .inl (kf 0))), ((qm 3), .inl (ty 1, 5, .inl (kf 0))), ((qm 4), .inl (ty 1, 304, .inl (kf 0))), ((qm 5), .inl (ty 3, 28, .inl (kf 0))), ((qm 6), .inl (ty 1, 28, .inl (kf 0))), ((qm 7), .inl (ty 1, 256, .inl (kf 0))), ((qm 8), .inl (ty 1, 256, .inl (kf 0))), ((qm 9), .inl (ty 3, 16, .inl (kf 0))), ((qm 10), .inl (ty 1, 28, .inl (kf 0))), ((qm 11), .inl (ty 1, 28, .inl (kf 0))), ((qm 12), .inl (ty 1, 44, .inl (kf 0))), ((qm 13), .inl (ty 1, 2, .inl (kf 0))), ((qm 14), .inl (ty 1, 9, .inl (kf 0))), ((qm 15), .inl (ty 1, 512, .inl (kf 0))), ((qm 16), .inl (ty 1, 512, .inl (kf 0))), ((qm 17), .inl (ty 1, 16, .inl (kf 0))), ((qm 18), .inl (ty 1, 2, .inl (kf 0))), ((qm 19), .inl (ty 1, 4, .inl (upd (upd (upd (upd (kf 0) 0 (-1)) 1 (-1)) 2 (-1)) 3 (-1)))), ((qm 20), .inl (ty 1, 4, .inl (kf 0))), ((qm 21), .inl (ty 2, 240, .inr (.inl (kj 0)))), ((qm 22), .inl (ty 2, 60, .inr (.inl (kj 0)))), ((qm 23), .inl (ty 1, 304, .inl (upd (upd (kf 0) 1 2) 4 (-1))))] := hD
    refine lv_aload_n hx hb dL_law_1773 rfl (lv_at hl 1 rfl) ?_
    refine lv_aload_n hx hb dL_law_1774 rfl (lv_at hl 3 rfl) ?_
    refine lv_iload_n hx hb dL_law_1775 rfl (lv_at hl 0 rfl) ?_
    refine lv_iconst (v := 1) hx hb dL_law_1776 (by decide) ?_
    refine lv_iadd hx hb dL_law_1777 ?_
    refine tp_i (v := 1) (by decide) ?_
    refine va_sld hx hb hX hbl hbA hS (by unfold vp_in; decide) dL_law_1778 ?_
    refine tp_i (v := s1) h1 ?_
    refine lv_aload_n hx hb dL_law_1779 rfl (lv_at hl 3 rfl) ?_
    refine lv_iload_n hx hb dL_law_1780 rfl (lv_at hl 0 rfl) ?_
    refine lv_iconst (v := 2) hx hb dL_law_1781 (by decide) ?_
    refine lv_iadd hx hb dL_law_1782 ?_
    refine tp_i (v := 2) (by decide) ?_
    refine va_sld hx hb hX hbl hbA hS (by unfold vp_in; decide) dL_law_1783 ?_
    refine tp_i (v := s2) h2 ?_
    refine lv_aload_n hx hb dL_law_1784 rfl (lv_at hl 3 rfl) ?_
    refine lv_iload_n hx hb dL_law_1785 rfl (lv_at hl 0 rfl) ?_
    refine lv_iconst (v := 3) hx hb dL_law_1786 (by decide) ?_
    refine lv_iadd hx hb dL_law_1787 ?_
    refine tp_i (v := 3) (by decide) ?_
    refine va_sld hx hb hX hbl hbA hS (by unfold vp_in; decide) dL_law_1788 ?_
    refine tp_i (v := s3) h3 ?_
    refine kc_i (va_runV (As := [.int s1, .int s2, .int s3]) (rest := [.int (-2)]) ⟨hx, hb, hml, hown, hB⟩ (c227_X12_row l D ty H.size m0 (qm 19) (qm 20) (qm 21) s1 s2 s3 (.int 0) (.ref (qm 23)) (.ref (qm 0)) (.ref (qm 1)) (.ref (qm 2)) (.int 0) (.ref (qm 3)) (.int 0) (.int 0) (.int 0) (.int 0) (.int 0) (.int 0) (.int (-1)) (.ref (qm 4)) (.ref (qm 5)) (.ref (qm 6)) (.ref (qm 7)) (.ref (qm 8)) (.ref (qm 9)) (.ref (qm 10)) (.ref (qm 11)) (.ref (qm 12)) (.int 0) (.ref (qm 13)) (.int 0) (.ref (qm 14)) (.int 0) (.ref (qm 15)) (.ref (qm 16)) (.ref (qm 17)) (.int 0) (.ref (qm 18)) (.int 0) (.ref (qm 22)) (upd (upd (upd (upd (kf 0) 0 (-1)) 1 (-1)) 2 (-1)) 3 (-1)) (kf 0) (kj 0)) (cwV 3 hB (bw_V mw_984 mw_985 mw_986 mw_211 mw_983) rfl rfl rfl (by decide +kernel) ⟨Nat.le_of_ble_eq_true rfl, Nat.le_of_ble_eq_true rfl⟩) (kp_V hK hP hD [0, 20, 21, 22] (by decide) rfl 0 rfl rfl rfl) rfl rfl hl.1 rfl (lv_room (Nat.le_of_ble_eq_true rfl)) dL_law_1789 ⟨Nat.le_of_ble_eq_true rfl, Nat.le_of_ble_eq_true rfl⟩) hP hD hS hA [0, 20, 21, 22] [] (wr := []) rfl rfl (by decide) (by decide) (fun r u H locs w5 hP hD hS => ?_)
    rcases w5 with ⟨c6, rfl, rfl⟩ | ⟨c7, rfl, rfl⟩ | ⟨c8, rfl, rfl⟩
    · exact (ps_53 s1 s2 s3 c2 c6).elim
    · exact (ps_54 s1 s2 s3 c2 c7).elim
    · have hP : va_P D vwCl [] H := hP
      have hD : va_D (fun q : Nat => s.heap.size ≤ q) [] := hD
      refine lv_icmp_eq (tgt := 1933) hx hb dL_law_1792 (by decide) (fun _ => ?_) (fun h9 => absurd (by decide) h9)
      refine lv_iinc (v := 6) (lv' := [(3, .int 6), (2, .ref m0), (1, .ref x0), (0, .ref b)]) hx hb dL_law_1933 hl (k := 0) rfl (by decide) (by decide) rfl (fun ls hl => ?_)
      refine lv_goto (tgt := 18) hx hb dL_law_1936 (by decide) ?_
      exact law_end l (Nat.le_refl 6) C0 hS (lv_sub hl [0, 3] rfl)
  · have hP : va_P D vwCl [(m0, .inr (12, [.int 0, .ref (qm 23), .ref (qm 0), .ref (qm 1), .ref (qm 2), .int 0, .ref (qm 3), .int 0, .int 0, .int 0, .int 0, .int 0, .int 0, .int (-1), .ref (qm 4), .ref (qm 5), .ref (qm 6), .ref (qm 7), .ref (qm 8), .ref (qm 9), .ref (qm 10), .ref (qm 11), .ref (qm 12), .int 0, .ref (qm 13), .int 0, .ref (qm 14), .int 0, .ref (qm 15), .ref (qm 16), .ref (qm 17), .int 0, .ref (qm 18), .int 0, .ref (qm 19), .ref (qm 20), .ref (qm 21), .ref (qm 22)])), ((qm 0), .inl (ty 1, 912, .inl (kf 0))), ((qm 1), .inl (ty 3, 3, .inl (kf 0))), ((qm 2), .inl (ty 0, 800, .inl (kf 0))), ((qm 3), .inl (ty 1, 5, .inl (kf 0))), ((qm 4), .inl (ty 1, 304, .inl (kf 0))), ((qm 5), .inl (ty 3, 28, .inl (kf 0))), ((qm 6), .inl (ty 1, 28, .inl (kf 0))), ((qm 7), .inl (ty 1, 256, .inl (kf 0))), ((qm 8), .inl (ty 1, 256, .inl (kf 0))), ((qm 9), .inl (ty 3, 16, .inl (kf 0))), ((qm 10), .inl (ty 1, 28, .inl (kf 0))), ((qm 11), .inl (ty 1, 28, .inl (kf 0))), ((qm 12), .inl (ty 1, 44, .inl (kf 0))), ((qm 13), .inl (ty 1, 2, .inl (kf 0))), ((qm 14), .inl (ty 1, 9, .inl (kf 0))), ((qm 15), .inl (ty 1, 512, .inl (kf 0))), ((qm 16), .inl (ty 1, 512, .inl (kf 0))), ((qm 17), .inl (ty 1, 16, .inl (kf 0))), ((qm 18), .inl (ty 1, 2, .inl (kf 0))), ((qm 19), .inl (ty 1, 4, .inl (upd (upd (upd (upd (kf 0) 0 (-1)) 1 (-1)) 2 (-1)) 3 (-1)))), ((qm 20), .inl (ty 1, 4, .inl (kf 0))), ((qm 21), .inl (ty 2, 240, .inr (.inl (kj 0)))), ((qm 22), .inl (ty 2, 60, .inr (.inl (kj 0)))), ((qm 23), .inl (ty 1, 304, .inl (upd (upd (kf 0) 1 2) 4 (-1))))] H := hP
    have hD : va_D (fun q : Nat => s.heap.size ≤ q) [(m0, .inr (12, [.int 0, .ref (qm 23), .ref (qm 0), .ref (qm 1), .ref (qm 2), .int 0, .ref (qm 3), .int 0, .int 0, .int 0, .int 0, .int 0, .int 0, .int (-1), .ref (qm 4), .ref (qm 5), .ref (qm 6), .ref (qm 7), .ref (qm 8), .ref (qm 9), .ref (qm 10), .ref (qm 11), .ref (qm 12), .int 0, .ref (qm 13), .int 0, .ref (qm 14), .int 0, .ref (qm 15), .ref (qm 16), .ref (qm 17), .int 0, .ref (qm 18), .int 0, .ref (qm 19), .ref (qm 20), .ref (qm 21), .ref (qm 22)])), ((qm 0), .inl (ty 1, 912, .inl (kf 0))), ((qm 1), .inl (ty 3, 3, .inl (kf 0))), ((qm 2), .inl (ty 0, 800, .inl (kf 0))), ((qm 3), .inl (ty 1, 5, .inl (kf 0))), ((qm 4), .inl (ty 1, 304, .inl (kf 0))), ((qm 5), .inl (ty 3, 28, .inl (kf 0))), ((qm 6), .inl (ty 1, 28, .inl (kf 0))), ((qm 7), .inl (ty 1, 256, .inl (kf 0))), ((qm 8), .inl (ty 1, 256, .inl (kf 0))), ((qm 9), .inl (ty 3, 16, .inl (kf 0))), ((qm 10), .inl (ty 1, 28, .inl (kf 0))), ((qm 11), .inl (ty 1, 28, .inl (kf 0))), ((qm 12), .inl (ty 1, 44, .inl (kf 0))), ((qm 13), .inl (ty 1, 2, .inl (kf 0))), ((qm 14), .inl (ty 1, 9, .inl (kf 0))), ((qm 15), .inl (ty 1, 512, .inl (kf 0))), ((qm 16), .inl (ty 1, 512, .inl (kf 0))), ((qm 17), .inl (ty 1, 16, .inl (kf 0))), ((qm 18), .inl (ty 1, 2, .inl (kf 0))), ((qm 19), .inl (ty 1, 4, .inl (upd (upd (upd (upd (kf 0) 0 (-1)) 1 (-1)) 2 (-1)) 3 (-1)))), ((qm 20), .inl (ty 1, 4, .inl (kf 0))), ((qm 21), .inl (ty 2, 240, .inr (.inl (kj 0)))), ((qm 22), .inl (ty 2, 60, .inr (.inl (kj 0)))), ((qm 23), .inl (ty 1, 304, .inl (upd (upd (kf 0) 1 2) 4 (-1))))] := hD
    refine lv_aload_n hx hb dL_law_1773 rfl (lv_at hl 1 rfl) ?_
    refine lv_aload_n hx hb dL_law_1774 rfl (lv_at hl 3 rfl) ?_
    refine lv_iload_n hx hb dL_law_1775 rfl (lv_at hl 0 rfl) ?_
    refine lv_iconst (v := 1) hx hb dL_law_1776 (by decide) ?_
    refine lv_iadd hx hb dL_law_1777 ?_
    refine tp_i (v := 1) (by decide) ?_
    refine va_sld hx hb hX hbl hbA hS (by unfold vp_in; decide) dL_law_1778 ?_
    refine tp_i (v := s1) h1 ?_
    refine lv_aload_n hx hb dL_law_1779 rfl (lv_at hl 3 rfl) ?_
    refine lv_iload_n hx hb dL_law_1780 rfl (lv_at hl 0 rfl) ?_
    refine lv_iconst (v := 2) hx hb dL_law_1781 (by decide) ?_
    refine lv_iadd hx hb dL_law_1782 ?_
    refine tp_i (v := 2) (by decide) ?_
    refine va_sld hx hb hX hbl hbA hS (by unfold vp_in; decide) dL_law_1783 ?_
    refine tp_i (v := s2) h2 ?_
    refine lv_aload_n hx hb dL_law_1784 rfl (lv_at hl 3 rfl) ?_
    refine lv_iload_n hx hb dL_law_1785 rfl (lv_at hl 0 rfl) ?_
    refine lv_iconst (v := 3) hx hb dL_law_1786 (by decide) ?_
    refine lv_iadd hx hb dL_law_1787 ?_
    refine tp_i (v := 3) (by decide) ?_
    refine va_sld hx hb hX hbl hbA hS (by unfold vp_in; decide) dL_law_1788 ?_
    refine tp_i (v := s3) h3 ?_
    refine kc_i (va_runV (As := [.int s1, .int s2, .int s3]) (rest := [.int 0]) ⟨hx, hb, hml, hown, hB⟩ (c227_X12_row l D ty H.size m0 (qm 19) (qm 20) (qm 21) s1 s2 s3 (.int 0) (.ref (qm 23)) (.ref (qm 0)) (.ref (qm 1)) (.ref (qm 2)) (.int 0) (.ref (qm 3)) (.int 0) (.int 0) (.int 0) (.int 0) (.int 0) (.int 0) (.int (-1)) (.ref (qm 4)) (.ref (qm 5)) (.ref (qm 6)) (.ref (qm 7)) (.ref (qm 8)) (.ref (qm 9)) (.ref (qm 10)) (.ref (qm 11)) (.ref (qm 12)) (.int 0) (.ref (qm 13)) (.int 0) (.ref (qm 14)) (.int 0) (.ref (qm 15)) (.ref (qm 16)) (.ref (qm 17)) (.int 0) (.ref (qm 18)) (.int 0) (.ref (qm 22)) (upd (upd (upd (upd (kf 0) 0 (-1)) 1 (-1)) 2 (-1)) 3 (-1)) (kf 0) (kj 0)) (cwV 3 hB (bw_V mw_984 mw_985 mw_986 mw_211 mw_983) rfl rfl rfl (by decide +kernel) ⟨Nat.le_of_ble_eq_true rfl, Nat.le_of_ble_eq_true rfl⟩) (kp_V hK hP hD [0, 20, 21, 22] (by decide) rfl 0 rfl rfl rfl) rfl rfl hl.1 rfl (lv_room (Nat.le_of_ble_eq_true rfl)) dL_law_1789 ⟨Nat.le_of_ble_eq_true rfl, Nat.le_of_ble_eq_true rfl⟩) hP hD hS hA [0, 20, 21, 22] [] (wr := []) rfl rfl (by decide) (by decide) (fun r u H locs w9 hP hD hS => ?_)
    rcases w9 with ⟨c10, rfl, rfl⟩ | ⟨c11, rfl, rfl⟩ | ⟨c12, rfl, rfl⟩
    · have hP : va_P D vwCl [] H := hP
      have hD : va_D (fun q : Nat => s.heap.size ≤ q) [] := hD
      refine lv_icmp_eq (tgt := 1933) hx hb dL_law_1792 (by decide) (fun _ => ?_) (fun h9 => absurd (by decide) h9)
      refine lv_iinc (v := 6) (lv' := [(3, .int 6), (2, .ref m0), (1, .ref x0), (0, .ref b)]) hx hb dL_law_1933 hl (k := 0) rfl (by decide) (by decide) rfl (fun ls hl => ?_)
      refine lv_goto (tgt := 18) hx hb dL_law_1936 (by decide) ?_
      exact law_end l (Nat.le_refl 6) C0 hS (lv_sub hl [0, 3] rfl)
    · exact (ps_55 s1 s2 s3 c3 c11).elim
    · exact (ps_56 s1 s2 s3 c3 c12).elim
  · have hP : va_P D vwCl [(m0, .inr (12, [.int 0, .ref (qm 23), .ref (qm 0), .ref (qm 1), .ref (qm 2), .int 0, .ref (qm 3), .int 0, .int 0, .int 0, .int 0, .int 0, .int 0, .int (-1), .ref (qm 4), .ref (qm 5), .ref (qm 6), .ref (qm 7), .ref (qm 8), .ref (qm 9), .ref (qm 10), .ref (qm 11), .ref (qm 12), .int 0, .ref (qm 13), .int 0, .ref (qm 14), .int 0, .ref (qm 15), .ref (qm 16), .ref (qm 17), .int 0, .ref (qm 18), .int 0, .ref (qm 19), .ref (qm 20), .ref (qm 21), .ref (qm 22)])), ((qm 0), .inl (ty 1, 912, .inl (kf 0))), ((qm 1), .inl (ty 3, 3, .inl (kf 0))), ((qm 2), .inl (ty 0, 800, .inl (kf 0))), ((qm 3), .inl (ty 1, 5, .inl (kf 0))), ((qm 4), .inl (ty 1, 304, .inl (kf 0))), ((qm 5), .inl (ty 3, 28, .inl (kf 0))), ((qm 6), .inl (ty 1, 28, .inl (kf 0))), ((qm 7), .inl (ty 1, 256, .inl (kf 0))), ((qm 8), .inl (ty 1, 256, .inl (kf 0))), ((qm 9), .inl (ty 3, 16, .inl (kf 0))), ((qm 10), .inl (ty 1, 28, .inl (kf 0))), ((qm 11), .inl (ty 1, 28, .inl (kf 0))), ((qm 12), .inl (ty 1, 44, .inl (kf 0))), ((qm 13), .inl (ty 1, 2, .inl (kf 0))), ((qm 14), .inl (ty 1, 9, .inl (kf 0))), ((qm 15), .inl (ty 1, 512, .inl (kf 0))), ((qm 16), .inl (ty 1, 512, .inl (kf 0))), ((qm 17), .inl (ty 1, 16, .inl (kf 0))), ((qm 18), .inl (ty 1, 2, .inl (kf 0))), ((qm 19), .inl (ty 1, 4, .inl (upd (upd (upd (upd (kf 0) 0 (-1)) 1 (-1)) 2 (-1)) 3 (-1)))), ((qm 20), .inl (ty 1, 4, .inl (kf 0))), ((qm 21), .inl (ty 2, 240, .inr (.inl (kj 0)))), ((qm 22), .inl (ty 2, 60, .inr (.inl (kj 0)))), ((qm 23), .inl (ty 1, 304, .inl (upd (upd (kf 0) 1 2) 4 (-1))))] H := hP
    have hD : va_D (fun q : Nat => s.heap.size ≤ q) [(m0, .inr (12, [.int 0, .ref (qm 23), .ref (qm 0), .ref (qm 1), .ref (qm 2), .int 0, .ref (qm 3), .int 0, .int 0, .int 0, .int 0, .int 0, .int 0, .int (-1), .ref (qm 4), .ref (qm 5), .ref (qm 6), .ref (qm 7), .ref (qm 8), .ref (qm 9), .ref (qm 10), .ref (qm 11), .ref (qm 12), .int 0, .ref (qm 13), .int 0, .ref (qm 14), .int 0, .ref (qm 15), .ref (qm 16), .ref (qm 17), .int 0, .ref (qm 18), .int 0, .ref (qm 19), .ref (qm 20), .ref (qm 21), .ref (qm 22)])), ((qm 0), .inl (ty 1, 912, .inl (kf 0))), ((qm 1), .inl (ty 3, 3, .inl (kf 0))), ((qm 2), .inl (ty 0, 800, .inl (kf 0))), ((qm 3), .inl (ty 1, 5, .inl (kf 0))), ((qm 4), .inl (ty 1, 304, .inl (kf 0))), ((qm 5), .inl (ty 3, 28, .inl (kf 0))), ((qm 6), .inl (ty 1, 28, .inl (kf 0))), ((qm 7), .inl (ty 1, 256, .inl (kf 0))), ((qm 8), .inl (ty 1, 256, .inl (kf 0))), ((qm 9), .inl (ty 3, 16, .inl (kf 0))), ((qm 10), .inl (ty 1, 28, .inl (kf 0))), ((qm 11), .inl (ty 1, 28, .inl (kf 0))), ((qm 12), .inl (ty 1, 44, .inl (kf 0))), ((qm 13), .inl (ty 1, 2, .inl (kf 0))), ((qm 14), .inl (ty 1, 9, .inl (kf 0))), ((qm 15), .inl (ty 1, 512, .inl (kf 0))), ((qm 16), .inl (ty 1, 512, .inl (kf 0))), ((qm 17), .inl (ty 1, 16, .inl (kf 0))), ((qm 18), .inl (ty 1, 2, .inl (kf 0))), ((qm 19), .inl (ty 1, 4, .inl (upd (upd (upd (upd (kf 0) 0 (-1)) 1 (-1)) 2 (-1)) 3 (-1)))), ((qm 20), .inl (ty 1, 4, .inl (kf 0))), ((qm 21), .inl (ty 2, 240, .inr (.inl (kj 0)))), ((qm 22), .inl (ty 2, 60, .inr (.inl (kj 0)))), ((qm 23), .inl (ty 1, 304, .inl (upd (upd (kf 0) 1 2) 4 (-1))))] := hD
    refine lv_aload_n hx hb dL_law_1773 rfl (lv_at hl 1 rfl) ?_
    refine lv_aload_n hx hb dL_law_1774 rfl (lv_at hl 3 rfl) ?_
    refine lv_iload_n hx hb dL_law_1775 rfl (lv_at hl 0 rfl) ?_
    refine lv_iconst (v := 1) hx hb dL_law_1776 (by decide) ?_
    refine lv_iadd hx hb dL_law_1777 ?_
    refine tp_i (v := 1) (by decide) ?_
    refine va_sld hx hb hX hbl hbA hS (by unfold vp_in; decide) dL_law_1778 ?_
    refine tp_i (v := s1) h1 ?_
    refine lv_aload_n hx hb dL_law_1779 rfl (lv_at hl 3 rfl) ?_
    refine lv_iload_n hx hb dL_law_1780 rfl (lv_at hl 0 rfl) ?_
    refine lv_iconst (v := 2) hx hb dL_law_1781 (by decide) ?_
    refine lv_iadd hx hb dL_law_1782 ?_
    refine tp_i (v := 2) (by decide) ?_
    refine va_sld hx hb hX hbl hbA hS (by unfold vp_in; decide) dL_law_1783 ?_
    refine tp_i (v := s2) h2 ?_
    refine lv_aload_n hx hb dL_law_1784 rfl (lv_at hl 3 rfl) ?_
    refine lv_iload_n hx hb dL_law_1785 rfl (lv_at hl 0 rfl) ?_
    refine lv_iconst (v := 3) hx hb dL_law_1786 (by decide) ?_
    refine lv_iadd hx hb dL_law_1787 ?_
    refine tp_i (v := 3) (by decide) ?_
    refine va_sld hx hb hX hbl hbA hS (by unfold vp_in; decide) dL_law_1788 ?_
    refine tp_i (v := s3) h3 ?_
    refine kc_i (va_runV (As := [.int s1, .int s2, .int s3]) (rest := [.int (-3)]) ⟨hx, hb, hml, hown, hB⟩ (c227_X12_row l D ty H.size m0 (qm 19) (qm 20) (qm 21) s1 s2 s3 (.int 0) (.ref (qm 23)) (.ref (qm 0)) (.ref (qm 1)) (.ref (qm 2)) (.int 0) (.ref (qm 3)) (.int 0) (.int 0) (.int 0) (.int 0) (.int 0) (.int 0) (.int (-1)) (.ref (qm 4)) (.ref (qm 5)) (.ref (qm 6)) (.ref (qm 7)) (.ref (qm 8)) (.ref (qm 9)) (.ref (qm 10)) (.ref (qm 11)) (.ref (qm 12)) (.int 0) (.ref (qm 13)) (.int 0) (.ref (qm 14)) (.int 0) (.ref (qm 15)) (.ref (qm 16)) (.ref (qm 17)) (.int 0) (.ref (qm 18)) (.int 0) (.ref (qm 22)) (upd (upd (upd (upd (kf 0) 0 (-1)) 1 (-1)) 2 (-1)) 3 (-1)) (kf 0) (kj 0)) (cwV 3 hB (bw_V mw_984 mw_985 mw_986 mw_211 mw_983) rfl rfl rfl (by decide +kernel) ⟨Nat.le_of_ble_eq_true rfl, Nat.le_of_ble_eq_true rfl⟩) (kp_V hK hP hD [0, 20, 21, 22] (by decide) rfl 0 rfl rfl rfl) rfl rfl hl.1 rfl (lv_room (Nat.le_of_ble_eq_true rfl)) dL_law_1789 ⟨Nat.le_of_ble_eq_true rfl, Nat.le_of_ble_eq_true rfl⟩) hP hD hS hA [0, 20, 21, 22] [] (wr := []) rfl rfl (by decide) (by decide) (fun r u H locs w13 hP hD hS => ?_)
    rcases w13 with ⟨c14, rfl, rfl⟩ | ⟨c15, rfl, rfl⟩ | ⟨c16, rfl, rfl⟩
    · exact (ps_57 s1 s2 s3 c4 c14).elim
    · have hP : va_P D vwCl [] H := hP
      have hD : va_D (fun q : Nat => s.heap.size ≤ q) [] := hD
      refine lv_icmp_eq (tgt := 1933) hx hb dL_law_1792 (by decide) (fun _ => ?_) (fun h9 => absurd (by decide) h9)
      refine lv_iinc (v := 6) (lv' := [(3, .int 6), (2, .ref m0), (1, .ref x0), (0, .ref b)]) hx hb dL_law_1933 hl (k := 0) rfl (by decide) (by decide) rfl (fun ls hl => ?_)
      refine lv_goto (tgt := 18) hx hb dL_law_1936 (by decide) ?_
      exact law_end l (Nat.le_refl 6) C0 hS (lv_sub hl [0, 3] rfl)
    · exact (ps_58 s1 s2 s3 c4 c16).elim

set_option maxHeartbeats 4000000 in
set_option maxRecDepth 100000 in
theorem br_53 {p : Program} {e : Env} {s : State} {m : MethodId} {below : List Frame} {meth : Method} {c : Code} (l : Launch) {b : Nat} {xs : Nat → Int32} (C0 : lw_At p s m meth c b 6 xs) (D : va_G) (ty : Nat → ClassId) (hK : kK D ty s) (x0 m0 : Nat) (qx qm : Nat → Nat) {H : Heap} {locs : List Loc} {ls : Array Slot} (hP : va_P D vwCl (lawW ty x0 m0 qx qm) H) (hD : va_D (fun q : Nat => s.heap.size ≤ q) (lawW ty x0 m0 qx qm)) (hS : va_S (fun q : Nat => s.heap.size ≤ q) s.heap H locs) (hl : lv_has ls 4 [(3, .int 0), (2, .ref m0), (1, .ref x0), (0, .ref b)]) :
    W p l e room_1 s m #[Value.ref b] below meth c H locs 200 10000 (lw_Z below #[Value.ref b] s) (F0 m 1797 ls []) := by
  obtain ⟨hx, hb, hr, hml, hown0, hts, hX, hbl, hlocks, hgv⟩ := id C0
  have hown : s.vm.findClass RL = some m.cls := hown0
  have hB : ∀ w ∈ bW, w.before #[Value.ref b] s = true := fun w h => hts w (bW_lw h)
  have hA : ∀ q : Nat, s.heap.size ≤ q → (fun q : Nat => s.heap.size ≤ q) q := fun _ h => h
  have hbA : ¬ (fun q : Nat => s.heap.size ≤ q) b := Nat.not_le.mpr hbl
  obtain ⟨s1, h1⟩ : ∃ y, xs 1 = y := ⟨_, rfl⟩
  obtain ⟨s2, h2⟩ : ∃ y, xs 2 = y := ⟨_, rfl⟩
  obtain ⟨s3, h3⟩ : ∃ y, xs 3 = y := ⟨_, rfl⟩
  obtain ⟨s4, h4⟩ : ∃ y, xs 4 = y := ⟨_, rfl⟩
  obtain ⟨s5, h5⟩ : ∃ y, xs 5 = y := ⟨_, rfl⟩
  refine lv_aload_n hx hb dL_law_1797 rfl (lv_at hl 2 rfl) ?_
  refine lv_aload_n hx hb dL_law_1798 rfl (lv_at hl 3 rfl) ?_
  refine lv_iload_n hx hb dL_law_1799 rfl (lv_at hl 0 rfl) ?_
  refine lv_iconst (v := 1) hx hb dL_law_1800 (by decide) ?_
  refine lv_iadd hx hb dL_law_1801 ?_
  refine tp_i (v := 1) (by decide) ?_
  refine va_sld hx hb hX hbl hbA hS (by unfold vp_in; decide) dL_law_1802 ?_
  refine tp_i (v := s1) h1 ?_
  refine lv_aload_n hx hb dL_law_1803 rfl (lv_at hl 3 rfl) ?_
  refine lv_iload_n hx hb dL_law_1804 rfl (lv_at hl 0 rfl) ?_
  refine lv_iconst (v := 2) hx hb dL_law_1805 (by decide) ?_
  refine lv_iadd hx hb dL_law_1806 ?_
  refine tp_i (v := 2) (by decide) ?_
  refine va_sld hx hb hX hbl hbA hS (by unfold vp_in; decide) dL_law_1807 ?_
  refine tp_i (v := s2) h2 ?_
  refine lv_aload_n hx hb dL_law_1808 rfl (lv_at hl 3 rfl) ?_
  refine lv_iload_n hx hb dL_law_1809 rfl (lv_at hl 0 rfl) ?_
  refine lv_iconst (v := 3) hx hb dL_law_1810 (by decide) ?_
  refine lv_iadd hx hb dL_law_1811 ?_
  refine tp_i (v := 3) (by decide) ?_
  refine va_sld hx hb hX hbl hbA hS (by unfold vp_in; decide) dL_law_1812 ?_
  refine tp_i (v := s3) h3 ?_
  refine lv_i2l (v := (Int32.toInt64 s3)) hx hb dL_law_1813 rfl ?_
  refine lv_bipush (v := 32) hx hb dL_law_1814 (by decide) ?_
  refine lv_lshl (v := ((Int32.toInt64 s3) <<< (Int32.toInt64 32 &&& 63))) hx hb dL_law_1816 rfl ?_
  refine lv_aload_n hx hb dL_law_1817 rfl (lv_at hl 3 rfl) ?_
  refine lv_iload_n hx hb dL_law_1818 rfl (lv_at hl 0 rfl) ?_
  refine lv_iconst (v := 4) hx hb dL_law_1819 (by decide) ?_
  refine lv_iadd hx hb dL_law_1820 ?_
  refine tp_i (v := 4) (by decide) ?_
  refine va_sld hx hb hX hbl hbA hS (by unfold vp_in; decide) dL_law_1821 ?_
  refine tp_i (v := s4) h4 ?_
  refine lv_i2l (v := (Int32.toInt64 s4)) hx hb dL_law_1822 rfl ?_
  refine lv_ldc2 hx hb hown (hB _ mw_987) dL_law_1823 ?_
  refine lv_land hx hb dL_law_1826 ?_
  refine lv_lor hx hb dL_law_1827 ?_
  refine kc_i (va_runV (As := [.int s1, .int s2, .long (((Int32.toInt64 s3) <<< (Int32.toInt64 32 &&& 63)) ||| ((Int32.toInt64 s4) &&& 4294967295))]) (rest := []) ⟨hx, hb, hml, hown, hB⟩ (c138_X11_write l D ty H.size x0 (qx 36) (qx 108) (qx 110) (qx 112) (qx 114) s1 s2 (((Int32.toInt64 s3) <<< (Int32.toInt64 32 &&& 63)) ||| ((Int32.toInt64 s4) &&& 4294967295)) (.ref (qx 0)) (.int 0) (.ref (qx 1)) (.ref (qx 19)) (.ref (qx 35)) (.ref (qx 119)) (.ref (qx 42)) (.ref (qx 44)) (.ref (qx 45)) (.ref (qx 50)) (.int (-1)) (.int (-1)) (.int (-1)) (.int (-1)) (.int 0) (.ref (qx 109)) (.int 0) (.ref (qx 111)) (.int 0) (.ref (qx 113)) (.int 0) (.ref (qx 115))) (cwV 3 hB (bw_V mw_989 mw_990 mw_991 mw_216 mw_988) rfl rfl rfl (by decide +kernel) ⟨Nat.le_of_ble_eq_true rfl, Nat.le_of_ble_eq_true rfl⟩) (kp_V hK hP hD [0, 37, 109, 111, 113, 115] (by decide) rfl 0 rfl rfl rfl) rfl rfl hl.1 rfl (lv_room (Nat.le_of_ble_eq_true rfl)) dL_law_1828 ⟨Nat.le_of_ble_eq_true rfl, Nat.le_of_ble_eq_true rfl⟩) hP hD hS hA [0, 37, 109, 111, 113, 115] [122, 123, 124, 125, 126, 127, 128, 129, 130, 131, 132, 133, 134, 135, 136, 137, 138, 139, 140, 141, 142, 143, 144, 145, 146] (wr := [(m0, .inr (12, [.int 0, .ref (qm 23), .ref (qm 0), .ref (qm 1), .ref (qm 2), .int 0, .ref (qm 3), .int 0, .int 0, .int 0, .int 0, .int 0, .int 0, .int (-1), .ref (qm 4), .ref (qm 5), .ref (qm 6), .ref (qm 7), .ref (qm 8), .ref (qm 9), .ref (qm 10), .ref (qm 11), .ref (qm 12), .int 0, .ref (qm 13), .int 0, .ref (qm 14), .int 0, .ref (qm 15), .ref (qm 16), .ref (qm 17), .int 0, .ref (qm 18), .int 0, .ref (qm 19), .ref (qm 20), .ref (qm 21), .ref (qm 22)])), ((qm 0), .inl (ty 1, 912, .inl (kf 0))), ((qm 1), .inl (ty 3, 3, .inl (kf 0))), ((qm 2), .inl (ty 0, 800, .inl (kf 0))), ((qm 3), .inl (ty 1, 5, .inl (kf 0))), ((qm 4), .inl (ty 1, 304, .inl (kf 0))), ((qm 5), .inl (ty 3, 28, .inl (kf 0))), ((qm 6), .inl (ty 1, 28, .inl (kf 0))), ((qm 7), .inl (ty 1, 256, .inl (kf 0))), ((qm 8), .inl (ty 1, 256, .inl (kf 0))), ((qm 9), .inl (ty 3, 16, .inl (kf 0))), ((qm 10), .inl (ty 1, 28, .inl (kf 0))), ((qm 11), .inl (ty 1, 28, .inl (kf 0))), ((qm 12), .inl (ty 1, 44, .inl (kf 0))), ((qm 13), .inl (ty 1, 2, .inl (kf 0))), ((qm 14), .inl (ty 1, 9, .inl (kf 0))), ((qm 15), .inl (ty 1, 512, .inl (kf 0))), ((qm 16), .inl (ty 1, 512, .inl (kf 0))), ((qm 17), .inl (ty 1, 16, .inl (kf 0))), ((qm 18), .inl (ty 1, 2, .inl (kf 0))), ((qm 19), .inl (ty 1, 4, .inl (upd (upd (upd (upd (kf 0) 0 (-1)) 1 (-1)) 2 (-1)) 3 (-1)))), ((qm 20), .inl (ty 1, 4, .inl (kf 0))), ((qm 21), .inl (ty 2, 240, .inr (.inl (kj 0)))), ((qm 22), .inl (ty 2, 60, .inr (.inl (kj 0)))), ((qm 23), .inl (ty 1, 304, .inl (upd (upd (kf 0) 1 2) 4 (-1))))]) rfl rfl (by decide) (by decide) (fun r u H locs w1 hP hD hS => ?_)
  rcases w1 with ⟨c2, rfl, rfl⟩ | ⟨c3, rfl, rfl⟩
  · have hP : va_P D vwCl [(m0, .inr (12, [.int 0, .ref (qm 23), .ref (qm 0), .ref (qm 1), .ref (qm 2), .int 0, .ref (qm 3), .int 0, .int 0, .int 0, .int 0, .int 0, .int 0, .int (-1), .ref (qm 4), .ref (qm 5), .ref (qm 6), .ref (qm 7), .ref (qm 8), .ref (qm 9), .ref (qm 10), .ref (qm 11), .ref (qm 12), .int 0, .ref (qm 13), .int 0, .ref (qm 14), .int 0, .ref (qm 15), .ref (qm 16), .ref (qm 17), .int 0, .ref (qm 18), .int 0, .ref (qm 19), .ref (qm 20), .ref (qm 21), .ref (qm 22)])), ((qm 0), .inl (ty 1, 912, .inl (kf 0))), ((qm 1), .inl (ty 3, 3, .inl (kf 0))), ((qm 2), .inl (ty 0, 800, .inl (kf 0))), ((qm 3), .inl (ty 1, 5, .inl (kf 0))), ((qm 4), .inl (ty 1, 304, .inl (kf 0))), ((qm 5), .inl (ty 3, 28, .inl (kf 0))), ((qm 6), .inl (ty 1, 28, .inl (kf 0))), ((qm 7), .inl (ty 1, 256, .inl (kf 0))), ((qm 8), .inl (ty 1, 256, .inl (kf 0))), ((qm 9), .inl (ty 3, 16, .inl (kf 0))), ((qm 10), .inl (ty 1, 28, .inl (kf 0))), ((qm 11), .inl (ty 1, 28, .inl (kf 0))), ((qm 12), .inl (ty 1, 44, .inl (kf 0))), ((qm 13), .inl (ty 1, 2, .inl (kf 0))), ((qm 14), .inl (ty 1, 9, .inl (kf 0))), ((qm 15), .inl (ty 1, 512, .inl (kf 0))), ((qm 16), .inl (ty 1, 512, .inl (kf 0))), ((qm 17), .inl (ty 1, 16, .inl (kf 0))), ((qm 18), .inl (ty 1, 2, .inl (kf 0))), ((qm 19), .inl (ty 1, 4, .inl (upd (upd (upd (upd (kf 0) 0 (-1)) 1 (-1)) 2 (-1)) 3 (-1)))), ((qm 20), .inl (ty 1, 4, .inl (kf 0))), ((qm 21), .inl (ty 2, 240, .inr (.inl (kj 0)))), ((qm 22), .inl (ty 2, 60, .inr (.inl (kj 0)))), ((qm 23), .inl (ty 1, 304, .inl (upd (upd (kf 0) 1 2) 4 (-1))))] H := hP
    have hD : va_D (fun q : Nat => s.heap.size ≤ q) [(m0, .inr (12, [.int 0, .ref (qm 23), .ref (qm 0), .ref (qm 1), .ref (qm 2), .int 0, .ref (qm 3), .int 0, .int 0, .int 0, .int 0, .int 0, .int 0, .int (-1), .ref (qm 4), .ref (qm 5), .ref (qm 6), .ref (qm 7), .ref (qm 8), .ref (qm 9), .ref (qm 10), .ref (qm 11), .ref (qm 12), .int 0, .ref (qm 13), .int 0, .ref (qm 14), .int 0, .ref (qm 15), .ref (qm 16), .ref (qm 17), .int 0, .ref (qm 18), .int 0, .ref (qm 19), .ref (qm 20), .ref (qm 21), .ref (qm 22)])), ((qm 0), .inl (ty 1, 912, .inl (kf 0))), ((qm 1), .inl (ty 3, 3, .inl (kf 0))), ((qm 2), .inl (ty 0, 800, .inl (kf 0))), ((qm 3), .inl (ty 1, 5, .inl (kf 0))), ((qm 4), .inl (ty 1, 304, .inl (kf 0))), ((qm 5), .inl (ty 3, 28, .inl (kf 0))), ((qm 6), .inl (ty 1, 28, .inl (kf 0))), ((qm 7), .inl (ty 1, 256, .inl (kf 0))), ((qm 8), .inl (ty 1, 256, .inl (kf 0))), ((qm 9), .inl (ty 3, 16, .inl (kf 0))), ((qm 10), .inl (ty 1, 28, .inl (kf 0))), ((qm 11), .inl (ty 1, 28, .inl (kf 0))), ((qm 12), .inl (ty 1, 44, .inl (kf 0))), ((qm 13), .inl (ty 1, 2, .inl (kf 0))), ((qm 14), .inl (ty 1, 9, .inl (kf 0))), ((qm 15), .inl (ty 1, 512, .inl (kf 0))), ((qm 16), .inl (ty 1, 512, .inl (kf 0))), ((qm 17), .inl (ty 1, 16, .inl (kf 0))), ((qm 18), .inl (ty 1, 2, .inl (kf 0))), ((qm 19), .inl (ty 1, 4, .inl (upd (upd (upd (upd (kf 0) 0 (-1)) 1 (-1)) 2 (-1)) 3 (-1)))), ((qm 20), .inl (ty 1, 4, .inl (kf 0))), ((qm 21), .inl (ty 2, 240, .inr (.inl (kj 0)))), ((qm 22), .inl (ty 2, 60, .inr (.inl (kj 0)))), ((qm 23), .inl (ty 1, 304, .inl (upd (upd (kf 0) 1 2) 4 (-1))))] := hD
    refine lv_aload_n hx hb dL_law_1831 rfl (lv_at hl 1 rfl) ?_
    refine lv_aload_n hx hb dL_law_1832 rfl (lv_at hl 3 rfl) ?_
    refine lv_iload_n hx hb dL_law_1833 rfl (lv_at hl 0 rfl) ?_
    refine lv_iconst (v := 1) hx hb dL_law_1834 (by decide) ?_
    refine lv_iadd hx hb dL_law_1835 ?_
    refine tp_i (v := 1) (by decide) ?_
    refine va_sld hx hb hX hbl hbA hS (by unfold vp_in; decide) dL_law_1836 ?_
    refine tp_i (v := s1) h1 ?_
    refine lv_aload_n hx hb dL_law_1837 rfl (lv_at hl 3 rfl) ?_
    refine lv_iload_n hx hb dL_law_1838 rfl (lv_at hl 0 rfl) ?_
    refine lv_iconst (v := 2) hx hb dL_law_1839 (by decide) ?_
    refine lv_iadd hx hb dL_law_1840 ?_
    refine tp_i (v := 2) (by decide) ?_
    refine va_sld hx hb hX hbl hbA hS (by unfold vp_in; decide) dL_law_1841 ?_
    refine tp_i (v := s2) h2 ?_
    refine lv_aload_n hx hb dL_law_1842 rfl (lv_at hl 3 rfl) ?_
    refine lv_iload_n hx hb dL_law_1843 rfl (lv_at hl 0 rfl) ?_
    refine lv_iconst (v := 3) hx hb dL_law_1844 (by decide) ?_
    refine lv_iadd hx hb dL_law_1845 ?_
    refine tp_i (v := 3) (by decide) ?_
    refine va_sld hx hb hX hbl hbA hS (by unfold vp_in; decide) dL_law_1846 ?_
    refine tp_i (v := s3) h3 ?_
    refine lv_i2l (v := (Int32.toInt64 s3)) hx hb dL_law_1847 rfl ?_
    refine lv_bipush (v := 32) hx hb dL_law_1848 (by decide) ?_
    refine lv_lshl (v := ((Int32.toInt64 s3) <<< (Int32.toInt64 32 &&& 63))) hx hb dL_law_1850 rfl ?_
    refine lv_aload_n hx hb dL_law_1851 rfl (lv_at hl 3 rfl) ?_
    refine lv_iload_n hx hb dL_law_1852 rfl (lv_at hl 0 rfl) ?_
    refine lv_iconst (v := 4) hx hb dL_law_1853 (by decide) ?_
    refine lv_iadd hx hb dL_law_1854 ?_
    refine tp_i (v := 4) (by decide) ?_
    refine va_sld hx hb hX hbl hbA hS (by unfold vp_in; decide) dL_law_1855 ?_
    refine tp_i (v := s4) h4 ?_
    refine lv_i2l (v := (Int32.toInt64 s4)) hx hb dL_law_1856 rfl ?_
    refine lv_ldc2 hx hb hown (hB _ mw_987) dL_law_1857 ?_
    refine lv_land hx hb dL_law_1860 ?_
    refine lv_lor hx hb dL_law_1861 ?_
    refine kc_i (va_runV (As := [.int s1, .int s2, .long (((Int32.toInt64 s3) <<< (Int32.toInt64 32 &&& 63)) ||| ((Int32.toInt64 s4) &&& 4294967295))]) (rest := [.int (-2)]) ⟨hx, hb, hml, hown, hB⟩ (c228_X12_write l D ty H.size m0 (qm 19) s1 s2 (((Int32.toInt64 s3) <<< (Int32.toInt64 32 &&& 63)) ||| ((Int32.toInt64 s4) &&& 4294967295)) (.int 0) (.ref (qm 23)) (.ref (qm 0)) (.ref (qm 1)) (.ref (qm 2)) (.int 0) (.ref (qm 3)) (.int 0) (.int 0) (.int 0) (.int 0) (.int 0) (.int 0) (.int (-1)) (.ref (qm 4)) (.ref (qm 5)) (.ref (qm 6)) (.ref (qm 7)) (.ref (qm 8)) (.ref (qm 9)) (.ref (qm 10)) (.ref (qm 11)) (.ref (qm 12)) (.int 0) (.ref (qm 13)) (.int 0) (.ref (qm 14)) (.int 0) (.ref (qm 15)) (.ref (qm 16)) (.ref (qm 17)) (.int 0) (.ref (qm 18)) (.int 0) (.ref (qm 20)) (.ref (qm 21)) (.ref (qm 22))) (cwV 3 hB (bw_V mw_993 mw_994 mw_995 mw_211 mw_992) rfl rfl rfl (by decide +kernel) ⟨Nat.le_of_ble_eq_true rfl, Nat.le_of_ble_eq_true rfl⟩) (kp_V hK hP hD [0, 20] (by decide) rfl 0 rfl rfl rfl) rfl rfl hl.1 rfl (lv_room (Nat.le_of_ble_eq_true rfl)) dL_law_1862 ⟨Nat.le_of_ble_eq_true rfl, Nat.le_of_ble_eq_true rfl⟩) hP hD hS hA [0, 20] [] (wr := []) rfl rfl (by decide) (by decide) (fun r u H locs w4 hP hD hS => ?_)
    rcases w4 with ⟨c5, rfl, rfl⟩ | ⟨c6, rfl, rfl⟩
    · exact (ps_59 s1 c2 c5).elim
    · have hP : va_P D vwCl [] H := hP
      have hD : va_D (fun q : Nat => s.heap.size ≤ q) [] := hD
      refine lv_icmp_eq (tgt := 1933) hx hb dL_law_1865 (by decide) (fun _ => ?_) (fun h9 => absurd (by decide) h9)
      refine lv_iinc (v := 6) (lv' := [(3, .int 6), (2, .ref m0), (1, .ref x0), (0, .ref b)]) hx hb dL_law_1933 hl (k := 0) rfl (by decide) (by decide) rfl (fun ls hl => ?_)
      refine lv_goto (tgt := 18) hx hb dL_law_1936 (by decide) ?_
      exact law_end l (Nat.le_refl 6) C0 hS (lv_sub hl [0, 3] rfl)
  · have hP : va_P D vwCl [(m0, .inr (12, [.int 0, .ref (qm 23), .ref (qm 0), .ref (qm 1), .ref (qm 2), .int 0, .ref (qm 3), .int 0, .int 0, .int 0, .int 0, .int 0, .int 0, .int (-1), .ref (qm 4), .ref (qm 5), .ref (qm 6), .ref (qm 7), .ref (qm 8), .ref (qm 9), .ref (qm 10), .ref (qm 11), .ref (qm 12), .int 0, .ref (qm 13), .int 0, .ref (qm 14), .int 0, .ref (qm 15), .ref (qm 16), .ref (qm 17), .int 0, .ref (qm 18), .int 0, .ref (qm 19), .ref (qm 20), .ref (qm 21), .ref (qm 22)])), ((qm 0), .inl (ty 1, 912, .inl (kf 0))), ((qm 1), .inl (ty 3, 3, .inl (kf 0))), ((qm 2), .inl (ty 0, 800, .inl (kf 0))), ((qm 3), .inl (ty 1, 5, .inl (kf 0))), ((qm 4), .inl (ty 1, 304, .inl (kf 0))), ((qm 5), .inl (ty 3, 28, .inl (kf 0))), ((qm 6), .inl (ty 1, 28, .inl (kf 0))), ((qm 7), .inl (ty 1, 256, .inl (kf 0))), ((qm 8), .inl (ty 1, 256, .inl (kf 0))), ((qm 9), .inl (ty 3, 16, .inl (kf 0))), ((qm 10), .inl (ty 1, 28, .inl (kf 0))), ((qm 11), .inl (ty 1, 28, .inl (kf 0))), ((qm 12), .inl (ty 1, 44, .inl (kf 0))), ((qm 13), .inl (ty 1, 2, .inl (kf 0))), ((qm 14), .inl (ty 1, 9, .inl (kf 0))), ((qm 15), .inl (ty 1, 512, .inl (kf 0))), ((qm 16), .inl (ty 1, 512, .inl (kf 0))), ((qm 17), .inl (ty 1, 16, .inl (kf 0))), ((qm 18), .inl (ty 1, 2, .inl (kf 0))), ((qm 19), .inl (ty 1, 4, .inl (upd (upd (upd (upd (kf 0) 0 (-1)) 1 (-1)) 2 (-1)) 3 (-1)))), ((qm 20), .inl (ty 1, 4, .inl (kf 0))), ((qm 21), .inl (ty 2, 240, .inr (.inl (kj 0)))), ((qm 22), .inl (ty 2, 60, .inr (.inl (kj 0)))), ((qm 23), .inl (ty 1, 304, .inl (upd (upd (kf 0) 1 2) 4 (-1))))] H := hP
    have hD : va_D (fun q : Nat => s.heap.size ≤ q) [(m0, .inr (12, [.int 0, .ref (qm 23), .ref (qm 0), .ref (qm 1), .ref (qm 2), .int 0, .ref (qm 3), .int 0, .int 0, .int 0, .int 0, .int 0, .int 0, .int (-1), .ref (qm 4), .ref (qm 5), .ref (qm 6), .ref (qm 7), .ref (qm 8), .ref (qm 9), .ref (qm 10), .ref (qm 11), .ref (qm 12), .int 0, .ref (qm 13), .int 0, .ref (qm 14), .int 0, .ref (qm 15), .ref (qm 16), .ref (qm 17), .int 0, .ref (qm 18), .int 0, .ref (qm 19), .ref (qm 20), .ref (qm 21), .ref (qm 22)])), ((qm 0), .inl (ty 1, 912, .inl (kf 0))), ((qm 1), .inl (ty 3, 3, .inl (kf 0))), ((qm 2), .inl (ty 0, 800, .inl (kf 0))), ((qm 3), .inl (ty 1, 5, .inl (kf 0))), ((qm 4), .inl (ty 1, 304, .inl (kf 0))), ((qm 5), .inl (ty 3, 28, .inl (kf 0))), ((qm 6), .inl (ty 1, 28, .inl (kf 0))), ((qm 7), .inl (ty 1, 256, .inl (kf 0))), ((qm 8), .inl (ty 1, 256, .inl (kf 0))), ((qm 9), .inl (ty 3, 16, .inl (kf 0))), ((qm 10), .inl (ty 1, 28, .inl (kf 0))), ((qm 11), .inl (ty 1, 28, .inl (kf 0))), ((qm 12), .inl (ty 1, 44, .inl (kf 0))), ((qm 13), .inl (ty 1, 2, .inl (kf 0))), ((qm 14), .inl (ty 1, 9, .inl (kf 0))), ((qm 15), .inl (ty 1, 512, .inl (kf 0))), ((qm 16), .inl (ty 1, 512, .inl (kf 0))), ((qm 17), .inl (ty 1, 16, .inl (kf 0))), ((qm 18), .inl (ty 1, 2, .inl (kf 0))), ((qm 19), .inl (ty 1, 4, .inl (upd (upd (upd (upd (kf 0) 0 (-1)) 1 (-1)) 2 (-1)) 3 (-1)))), ((qm 20), .inl (ty 1, 4, .inl (kf 0))), ((qm 21), .inl (ty 2, 240, .inr (.inl (kj 0)))), ((qm 22), .inl (ty 2, 60, .inr (.inl (kj 0)))), ((qm 23), .inl (ty 1, 304, .inl (upd (upd (kf 0) 1 2) 4 (-1))))] := hD
    refine lv_aload_n hx hb dL_law_1831 rfl (lv_at hl 1 rfl) ?_
    refine lv_aload_n hx hb dL_law_1832 rfl (lv_at hl 3 rfl) ?_
    refine lv_iload_n hx hb dL_law_1833 rfl (lv_at hl 0 rfl) ?_
    refine lv_iconst (v := 1) hx hb dL_law_1834 (by decide) ?_
    refine lv_iadd hx hb dL_law_1835 ?_
    refine tp_i (v := 1) (by decide) ?_
    refine va_sld hx hb hX hbl hbA hS (by unfold vp_in; decide) dL_law_1836 ?_
    refine tp_i (v := s1) h1 ?_
    refine lv_aload_n hx hb dL_law_1837 rfl (lv_at hl 3 rfl) ?_
    refine lv_iload_n hx hb dL_law_1838 rfl (lv_at hl 0 rfl) ?_
    refine lv_iconst (v := 2) hx hb dL_law_1839 (by decide) ?_
    refine lv_iadd hx hb dL_law_1840 ?_
    refine tp_i (v := 2) (by decide) ?_
    refine va_sld hx hb hX hbl hbA hS (by unfold vp_in; decide) dL_law_1841 ?_
    refine tp_i (v := s2) h2 ?_
    refine lv_aload_n hx hb dL_law_1842 rfl (lv_at hl 3 rfl) ?_
    refine lv_iload_n hx hb dL_law_1843 rfl (lv_at hl 0 rfl) ?_
    refine lv_iconst (v := 3) hx hb dL_law_1844 (by decide) ?_
    refine lv_iadd hx hb dL_law_1845 ?_
    refine tp_i (v := 3) (by decide) ?_
    refine va_sld hx hb hX hbl hbA hS (by unfold vp_in; decide) dL_law_1846 ?_
    refine tp_i (v := s3) h3 ?_
    refine lv_i2l (v := (Int32.toInt64 s3)) hx hb dL_law_1847 rfl ?_
    refine lv_bipush (v := 32) hx hb dL_law_1848 (by decide) ?_
    refine lv_lshl (v := ((Int32.toInt64 s3) <<< (Int32.toInt64 32 &&& 63))) hx hb dL_law_1850 rfl ?_
    refine lv_aload_n hx hb dL_law_1851 rfl (lv_at hl 3 rfl) ?_
    refine lv_iload_n hx hb dL_law_1852 rfl (lv_at hl 0 rfl) ?_
    refine lv_iconst (v := 4) hx hb dL_law_1853 (by decide) ?_
    refine lv_iadd hx hb dL_law_1854 ?_
    refine tp_i (v := 4) (by decide) ?_
    refine va_sld hx hb hX hbl hbA hS (by unfold vp_in; decide) dL_law_1855 ?_
    refine tp_i (v := s4) h4 ?_
    refine lv_i2l (v := (Int32.toInt64 s4)) hx hb dL_law_1856 rfl ?_
    refine lv_ldc2 hx hb hown (hB _ mw_987) dL_law_1857 ?_
    refine lv_land hx hb dL_law_1860 ?_
    refine lv_lor hx hb dL_law_1861 ?_
    refine kc_i (va_runV (As := [.int s1, .int s2, .long (((Int32.toInt64 s3) <<< (Int32.toInt64 32 &&& 63)) ||| ((Int32.toInt64 s4) &&& 4294967295))]) (rest := [.int (-6)]) ⟨hx, hb, hml, hown, hB⟩ (c228_X12_write l D ty H.size m0 (qm 19) s1 s2 (((Int32.toInt64 s3) <<< (Int32.toInt64 32 &&& 63)) ||| ((Int32.toInt64 s4) &&& 4294967295)) (.int 0) (.ref (qm 23)) (.ref (qm 0)) (.ref (qm 1)) (.ref (qm 2)) (.int 0) (.ref (qm 3)) (.int 0) (.int 0) (.int 0) (.int 0) (.int 0) (.int 0) (.int (-1)) (.ref (qm 4)) (.ref (qm 5)) (.ref (qm 6)) (.ref (qm 7)) (.ref (qm 8)) (.ref (qm 9)) (.ref (qm 10)) (.ref (qm 11)) (.ref (qm 12)) (.int 0) (.ref (qm 13)) (.int 0) (.ref (qm 14)) (.int 0) (.ref (qm 15)) (.ref (qm 16)) (.ref (qm 17)) (.int 0) (.ref (qm 18)) (.int 0) (.ref (qm 20)) (.ref (qm 21)) (.ref (qm 22))) (cwV 3 hB (bw_V mw_993 mw_994 mw_995 mw_211 mw_992) rfl rfl rfl (by decide +kernel) ⟨Nat.le_of_ble_eq_true rfl, Nat.le_of_ble_eq_true rfl⟩) (kp_V hK hP hD [0, 20] (by decide) rfl 0 rfl rfl rfl) rfl rfl hl.1 rfl (lv_room (Nat.le_of_ble_eq_true rfl)) dL_law_1862 ⟨Nat.le_of_ble_eq_true rfl, Nat.le_of_ble_eq_true rfl⟩) hP hD hS hA [0, 20] [] (wr := []) rfl rfl (by decide) (by decide) (fun r u H locs w7 hP hD hS => ?_)
    rcases w7 with ⟨c8, rfl, rfl⟩ | ⟨c9, rfl, rfl⟩
    · have hP : va_P D vwCl [] H := hP
      have hD : va_D (fun q : Nat => s.heap.size ≤ q) [] := hD
      refine lv_icmp_eq (tgt := 1933) hx hb dL_law_1865 (by decide) (fun _ => ?_) (fun h9 => absurd (by decide) h9)
      refine lv_iinc (v := 6) (lv' := [(3, .int 6), (2, .ref m0), (1, .ref x0), (0, .ref b)]) hx hb dL_law_1933 hl (k := 0) rfl (by decide) (by decide) rfl (fun ls hl => ?_)
      refine lv_goto (tgt := 18) hx hb dL_law_1936 (by decide) ?_
      exact law_end l (Nat.le_refl 6) C0 hS (lv_sub hl [0, 3] rfl)
    · exact (ps_60 s1 c3 c9).elim

set_option maxHeartbeats 4000000 in
set_option maxRecDepth 100000 in
theorem br_54 {p : Program} {e : Env} {s : State} {m : MethodId} {below : List Frame} {meth : Method} {c : Code} (l : Launch) {b : Nat} {xs : Nat → Int32} (C0 : lw_At p s m meth c b 6 xs) (D : va_G) (ty : Nat → ClassId) (hK : kK D ty s) (x0 m0 : Nat) (qx qm : Nat → Nat) {H : Heap} {locs : List Loc} {ls : Array Slot} (hP : va_P D vwCl (lawW ty x0 m0 qx qm) H) (hD : va_D (fun q : Nat => s.heap.size ≤ q) (lawW ty x0 m0 qx qm)) (hS : va_S (fun q : Nat => s.heap.size ≤ q) s.heap H locs) (hl : lv_has ls 4 [(3, .int 0), (2, .ref m0), (1, .ref x0), (0, .ref b)]) :
    W p l e room_1 s m #[Value.ref b] below meth c H locs 200 10000 (lw_Z below #[Value.ref b] s) (F0 m 1870 ls []) := by
  obtain ⟨hx, hb, hr, hml, hown0, hts, hX, hbl, hlocks, hgv⟩ := id C0
  have hown : s.vm.findClass RL = some m.cls := hown0
  have hB : ∀ w ∈ bW, w.before #[Value.ref b] s = true := fun w h => hts w (bW_lw h)
  have hA : ∀ q : Nat, s.heap.size ≤ q → (fun q : Nat => s.heap.size ≤ q) q := fun _ h => h
  have hbA : ¬ (fun q : Nat => s.heap.size ≤ q) b := Nat.not_le.mpr hbl
  obtain ⟨s1, h1⟩ : ∃ y, xs 1 = y := ⟨_, rfl⟩
  obtain ⟨s2, h2⟩ : ∃ y, xs 2 = y := ⟨_, rfl⟩
  obtain ⟨s3, h3⟩ : ∃ y, xs 3 = y := ⟨_, rfl⟩
  obtain ⟨s4, h4⟩ : ∃ y, xs 4 = y := ⟨_, rfl⟩
  obtain ⟨s5, h5⟩ : ∃ y, xs 5 = y := ⟨_, rfl⟩
  refine lv_aload_n hx hb dL_law_1870 rfl (lv_at hl 2 rfl) ?_
  refine lv_aload_n hx hb dL_law_1871 rfl (lv_at hl 3 rfl) ?_
  refine lv_iload_n hx hb dL_law_1872 rfl (lv_at hl 0 rfl) ?_
  refine lv_iconst (v := 1) hx hb dL_law_1873 (by decide) ?_
  refine lv_iadd hx hb dL_law_1874 ?_
  refine tp_i (v := 1) (by decide) ?_
  refine va_sld hx hb hX hbl hbA hS (by unfold vp_in; decide) dL_law_1875 ?_
  refine tp_i (v := s1) h1 ?_
  refine lv_aload_n hx hb dL_law_1876 rfl (lv_at hl 3 rfl) ?_
  refine lv_iload_n hx hb dL_law_1877 rfl (lv_at hl 0 rfl) ?_
  refine lv_iconst (v := 2) hx hb dL_law_1878 (by decide) ?_
  refine lv_iadd hx hb dL_law_1879 ?_
  refine tp_i (v := 2) (by decide) ?_
  refine va_sld hx hb hX hbl hbA hS (by unfold vp_in; decide) dL_law_1880 ?_
  refine tp_i (v := s2) h2 ?_
  refine lv_aload_n hx hb dL_law_1881 rfl (lv_at hl 3 rfl) ?_
  refine lv_iload_n hx hb dL_law_1882 rfl (lv_at hl 0 rfl) ?_
  refine lv_iconst (v := 3) hx hb dL_law_1883 (by decide) ?_
  refine lv_iadd hx hb dL_law_1884 ?_
  refine tp_i (v := 3) (by decide) ?_
  refine va_sld hx hb hX hbl hbA hS (by unfold vp_in; decide) dL_law_1885 ?_
  refine tp_i (v := s3) h3 ?_
  refine lv_aload_n hx hb dL_law_1886 rfl (lv_at hl 3 rfl) ?_
  refine lv_iload_n hx hb dL_law_1887 rfl (lv_at hl 0 rfl) ?_
  refine lv_iconst (v := 4) hx hb dL_law_1888 (by decide) ?_
  refine lv_iadd hx hb dL_law_1889 ?_
  refine tp_i (v := 4) (by decide) ?_
  refine va_sld hx hb hX hbl hbA hS (by unfold vp_in; decide) dL_law_1890 ?_
  refine tp_i (v := s4) h4 ?_
  refine lv_aload_n hx hb dL_law_1891 rfl (lv_at hl 3 rfl) ?_
  refine lv_iload_n hx hb dL_law_1892 rfl (lv_at hl 0 rfl) ?_
  refine lv_iconst (v := 5) hx hb dL_law_1893 (by decide) ?_
  refine lv_iadd hx hb dL_law_1894 ?_
  refine tp_i (v := 5) (by decide) ?_
  refine va_sld hx hb hX hbl hbA hS (by unfold vp_in; decide) dL_law_1895 ?_
  refine tp_i (v := s5) h5 ?_
  refine kc_i (va_runV (As := [.int s1, .int s2, .int s3, .int s4, .int s5]) (rest := []) ⟨hx, hb, hml, hown, hB⟩ (c139_X11_paste l D ty H.size x0 (qx 36) (qx 108) (qx 110) (qx 112) (qx 114) s1 s2 s3 s4 s5 (.ref (qx 0)) (.int 0) (.ref (qx 1)) (.ref (qx 19)) (.ref (qx 35)) (.ref (qx 119)) (.ref (qx 42)) (.ref (qx 44)) (.ref (qx 45)) (.ref (qx 50)) (.int (-1)) (.int (-1)) (.int (-1)) (.int (-1)) (.int 0) (.ref (qx 109)) (.int 0) (.ref (qx 111)) (.int 0) (.ref (qx 113)) (.int 0) (.ref (qx 115))) (cwV 5 hB (bw_V mw_997 mw_998 mw_999 mw_216 mw_996) rfl rfl rfl (by decide +kernel) ⟨Nat.le_of_ble_eq_true rfl, Nat.le_of_ble_eq_true rfl⟩) (kp_V hK hP hD [0, 37, 109, 111, 113, 115] (by decide) rfl 0 rfl rfl rfl) rfl rfl hl.1 rfl (lv_room (Nat.le_of_ble_eq_true rfl)) dL_law_1896 ⟨Nat.le_of_ble_eq_true rfl, Nat.le_of_ble_eq_true rfl⟩) hP hD hS hA [0, 37, 109, 111, 113, 115] [122, 123, 124, 125, 126, 127, 128, 129, 130, 131, 132, 133, 134, 135, 136, 137, 138, 139, 140, 141, 142, 143, 144, 145, 146] (wr := [(m0, .inr (12, [.int 0, .ref (qm 23), .ref (qm 0), .ref (qm 1), .ref (qm 2), .int 0, .ref (qm 3), .int 0, .int 0, .int 0, .int 0, .int 0, .int 0, .int (-1), .ref (qm 4), .ref (qm 5), .ref (qm 6), .ref (qm 7), .ref (qm 8), .ref (qm 9), .ref (qm 10), .ref (qm 11), .ref (qm 12), .int 0, .ref (qm 13), .int 0, .ref (qm 14), .int 0, .ref (qm 15), .ref (qm 16), .ref (qm 17), .int 0, .ref (qm 18), .int 0, .ref (qm 19), .ref (qm 20), .ref (qm 21), .ref (qm 22)])), ((qm 0), .inl (ty 1, 912, .inl (kf 0))), ((qm 1), .inl (ty 3, 3, .inl (kf 0))), ((qm 2), .inl (ty 0, 800, .inl (kf 0))), ((qm 3), .inl (ty 1, 5, .inl (kf 0))), ((qm 4), .inl (ty 1, 304, .inl (kf 0))), ((qm 5), .inl (ty 3, 28, .inl (kf 0))), ((qm 6), .inl (ty 1, 28, .inl (kf 0))), ((qm 7), .inl (ty 1, 256, .inl (kf 0))), ((qm 8), .inl (ty 1, 256, .inl (kf 0))), ((qm 9), .inl (ty 3, 16, .inl (kf 0))), ((qm 10), .inl (ty 1, 28, .inl (kf 0))), ((qm 11), .inl (ty 1, 28, .inl (kf 0))), ((qm 12), .inl (ty 1, 44, .inl (kf 0))), ((qm 13), .inl (ty 1, 2, .inl (kf 0))), ((qm 14), .inl (ty 1, 9, .inl (kf 0))), ((qm 15), .inl (ty 1, 512, .inl (kf 0))), ((qm 16), .inl (ty 1, 512, .inl (kf 0))), ((qm 17), .inl (ty 1, 16, .inl (kf 0))), ((qm 18), .inl (ty 1, 2, .inl (kf 0))), ((qm 19), .inl (ty 1, 4, .inl (upd (upd (upd (upd (kf 0) 0 (-1)) 1 (-1)) 2 (-1)) 3 (-1)))), ((qm 20), .inl (ty 1, 4, .inl (kf 0))), ((qm 21), .inl (ty 2, 240, .inr (.inl (kj 0)))), ((qm 22), .inl (ty 2, 60, .inr (.inl (kj 0)))), ((qm 23), .inl (ty 1, 304, .inl (upd (upd (kf 0) 1 2) 4 (-1))))]) rfl rfl (by decide) (by decide) (fun r u H locs w1 hP hD hS => ?_)
  rcases w1 with ⟨c2, rfl, rfl⟩ | ⟨c3, rfl, rfl⟩
  · have hP : va_P D vwCl [(m0, .inr (12, [.int 0, .ref (qm 23), .ref (qm 0), .ref (qm 1), .ref (qm 2), .int 0, .ref (qm 3), .int 0, .int 0, .int 0, .int 0, .int 0, .int 0, .int (-1), .ref (qm 4), .ref (qm 5), .ref (qm 6), .ref (qm 7), .ref (qm 8), .ref (qm 9), .ref (qm 10), .ref (qm 11), .ref (qm 12), .int 0, .ref (qm 13), .int 0, .ref (qm 14), .int 0, .ref (qm 15), .ref (qm 16), .ref (qm 17), .int 0, .ref (qm 18), .int 0, .ref (qm 19), .ref (qm 20), .ref (qm 21), .ref (qm 22)])), ((qm 0), .inl (ty 1, 912, .inl (kf 0))), ((qm 1), .inl (ty 3, 3, .inl (kf 0))), ((qm 2), .inl (ty 0, 800, .inl (kf 0))), ((qm 3), .inl (ty 1, 5, .inl (kf 0))), ((qm 4), .inl (ty 1, 304, .inl (kf 0))), ((qm 5), .inl (ty 3, 28, .inl (kf 0))), ((qm 6), .inl (ty 1, 28, .inl (kf 0))), ((qm 7), .inl (ty 1, 256, .inl (kf 0))), ((qm 8), .inl (ty 1, 256, .inl (kf 0))), ((qm 9), .inl (ty 3, 16, .inl (kf 0))), ((qm 10), .inl (ty 1, 28, .inl (kf 0))), ((qm 11), .inl (ty 1, 28, .inl (kf 0))), ((qm 12), .inl (ty 1, 44, .inl (kf 0))), ((qm 13), .inl (ty 1, 2, .inl (kf 0))), ((qm 14), .inl (ty 1, 9, .inl (kf 0))), ((qm 15), .inl (ty 1, 512, .inl (kf 0))), ((qm 16), .inl (ty 1, 512, .inl (kf 0))), ((qm 17), .inl (ty 1, 16, .inl (kf 0))), ((qm 18), .inl (ty 1, 2, .inl (kf 0))), ((qm 19), .inl (ty 1, 4, .inl (upd (upd (upd (upd (kf 0) 0 (-1)) 1 (-1)) 2 (-1)) 3 (-1)))), ((qm 20), .inl (ty 1, 4, .inl (kf 0))), ((qm 21), .inl (ty 2, 240, .inr (.inl (kj 0)))), ((qm 22), .inl (ty 2, 60, .inr (.inl (kj 0)))), ((qm 23), .inl (ty 1, 304, .inl (upd (upd (kf 0) 1 2) 4 (-1))))] H := hP
    have hD : va_D (fun q : Nat => s.heap.size ≤ q) [(m0, .inr (12, [.int 0, .ref (qm 23), .ref (qm 0), .ref (qm 1), .ref (qm 2), .int 0, .ref (qm 3), .int 0, .int 0, .int 0, .int 0, .int 0, .int 0, .int (-1), .ref (qm 4), .ref (qm 5), .ref (qm 6), .ref (qm 7), .ref (qm 8), .ref (qm 9), .ref (qm 10), .ref (qm 11), .ref (qm 12), .int 0, .ref (qm 13), .int 0, .ref (qm 14), .int 0, .ref (qm 15), .ref (qm 16), .ref (qm 17), .int 0, .ref (qm 18), .int 0, .ref (qm 19), .ref (qm 20), .ref (qm 21), .ref (qm 22)])), ((qm 0), .inl (ty 1, 912, .inl (kf 0))), ((qm 1), .inl (ty 3, 3, .inl (kf 0))), ((qm 2), .inl (ty 0, 800, .inl (kf 0))), ((qm 3), .inl (ty 1, 5, .inl (kf 0))), ((qm 4), .inl (ty 1, 304, .inl (kf 0))), ((qm 5), .inl (ty 3, 28, .inl (kf 0))), ((qm 6), .inl (ty 1, 28, .inl (kf 0))), ((qm 7), .inl (ty 1, 256, .inl (kf 0))), ((qm 8), .inl (ty 1, 256, .inl (kf 0))), ((qm 9), .inl (ty 3, 16, .inl (kf 0))), ((qm 10), .inl (ty 1, 28, .inl (kf 0))), ((qm 11), .inl (ty 1, 28, .inl (kf 0))), ((qm 12), .inl (ty 1, 44, .inl (kf 0))), ((qm 13), .inl (ty 1, 2, .inl (kf 0))), ((qm 14), .inl (ty 1, 9, .inl (kf 0))), ((qm 15), .inl (ty 1, 512, .inl (kf 0))), ((qm 16), .inl (ty 1, 512, .inl (kf 0))), ((qm 17), .inl (ty 1, 16, .inl (kf 0))), ((qm 18), .inl (ty 1, 2, .inl (kf 0))), ((qm 19), .inl (ty 1, 4, .inl (upd (upd (upd (upd (kf 0) 0 (-1)) 1 (-1)) 2 (-1)) 3 (-1)))), ((qm 20), .inl (ty 1, 4, .inl (kf 0))), ((qm 21), .inl (ty 2, 240, .inr (.inl (kj 0)))), ((qm 22), .inl (ty 2, 60, .inr (.inl (kj 0)))), ((qm 23), .inl (ty 1, 304, .inl (upd (upd (kf 0) 1 2) 4 (-1))))] := hD
    refine lv_aload_n hx hb dL_law_1899 rfl (lv_at hl 1 rfl) ?_
    refine lv_aload_n hx hb dL_law_1900 rfl (lv_at hl 3 rfl) ?_
    refine lv_iload_n hx hb dL_law_1901 rfl (lv_at hl 0 rfl) ?_
    refine lv_iconst (v := 1) hx hb dL_law_1902 (by decide) ?_
    refine lv_iadd hx hb dL_law_1903 ?_
    refine tp_i (v := 1) (by decide) ?_
    refine va_sld hx hb hX hbl hbA hS (by unfold vp_in; decide) dL_law_1904 ?_
    refine tp_i (v := s1) h1 ?_
    refine lv_aload_n hx hb dL_law_1905 rfl (lv_at hl 3 rfl) ?_
    refine lv_iload_n hx hb dL_law_1906 rfl (lv_at hl 0 rfl) ?_
    refine lv_iconst (v := 2) hx hb dL_law_1907 (by decide) ?_
    refine lv_iadd hx hb dL_law_1908 ?_
    refine tp_i (v := 2) (by decide) ?_
    refine va_sld hx hb hX hbl hbA hS (by unfold vp_in; decide) dL_law_1909 ?_
    refine tp_i (v := s2) h2 ?_
    refine lv_aload_n hx hb dL_law_1910 rfl (lv_at hl 3 rfl) ?_
    refine lv_iload_n hx hb dL_law_1911 rfl (lv_at hl 0 rfl) ?_
    refine lv_iconst (v := 3) hx hb dL_law_1912 (by decide) ?_
    refine lv_iadd hx hb dL_law_1913 ?_
    refine tp_i (v := 3) (by decide) ?_
    refine va_sld hx hb hX hbl hbA hS (by unfold vp_in; decide) dL_law_1914 ?_
    refine tp_i (v := s3) h3 ?_
    refine lv_aload_n hx hb dL_law_1915 rfl (lv_at hl 3 rfl) ?_
    refine lv_iload_n hx hb dL_law_1916 rfl (lv_at hl 0 rfl) ?_
    refine lv_iconst (v := 4) hx hb dL_law_1917 (by decide) ?_
    refine lv_iadd hx hb dL_law_1918 ?_
    refine tp_i (v := 4) (by decide) ?_
    refine va_sld hx hb hX hbl hbA hS (by unfold vp_in; decide) dL_law_1919 ?_
    refine tp_i (v := s4) h4 ?_
    refine lv_aload_n hx hb dL_law_1920 rfl (lv_at hl 3 rfl) ?_
    refine lv_iload_n hx hb dL_law_1921 rfl (lv_at hl 0 rfl) ?_
    refine lv_iconst (v := 5) hx hb dL_law_1922 (by decide) ?_
    refine lv_iadd hx hb dL_law_1923 ?_
    refine tp_i (v := 5) (by decide) ?_
    refine va_sld hx hb hX hbl hbA hS (by unfold vp_in; decide) dL_law_1924 ?_
    refine tp_i (v := s5) h5 ?_
    refine kc_i (va_runV (As := [.int s1, .int s2, .int s3, .int s4, .int s5]) (rest := [.int (-2)]) ⟨hx, hb, hml, hown, hB⟩ (c229_X12_paste l D ty H.size m0 (qm 19) s1 s2 s3 s4 s5 (.int 0) (.ref (qm 23)) (.ref (qm 0)) (.ref (qm 1)) (.ref (qm 2)) (.int 0) (.ref (qm 3)) (.int 0) (.int 0) (.int 0) (.int 0) (.int 0) (.int 0) (.int (-1)) (.ref (qm 4)) (.ref (qm 5)) (.ref (qm 6)) (.ref (qm 7)) (.ref (qm 8)) (.ref (qm 9)) (.ref (qm 10)) (.ref (qm 11)) (.ref (qm 12)) (.int 0) (.ref (qm 13)) (.int 0) (.ref (qm 14)) (.int 0) (.ref (qm 15)) (.ref (qm 16)) (.ref (qm 17)) (.int 0) (.ref (qm 18)) (.int 0) (.ref (qm 20)) (.ref (qm 21)) (.ref (qm 22))) (cwV 5 hB (bw_V mw_1001 mw_1002 mw_1003 mw_211 mw_1000) rfl rfl rfl (by decide +kernel) ⟨Nat.le_of_ble_eq_true rfl, Nat.le_of_ble_eq_true rfl⟩) (kp_V hK hP hD [0, 20] (by decide) rfl 0 rfl rfl rfl) rfl rfl hl.1 rfl (lv_room (Nat.le_of_ble_eq_true rfl)) dL_law_1925 ⟨Nat.le_of_ble_eq_true rfl, Nat.le_of_ble_eq_true rfl⟩) hP hD hS hA [0, 20] [] (wr := []) rfl rfl (by decide) (by decide) (fun r u H locs w4 hP hD hS => ?_)
    rcases w4 with ⟨c5, rfl, rfl⟩ | ⟨c6, rfl, rfl⟩
    · exact (ps_61 s1 s3 c2 c5).elim
    · have hP : va_P D vwCl [] H := hP
      have hD : va_D (fun q : Nat => s.heap.size ≤ q) [] := hD
      refine lv_icmp_eq (tgt := 1933) hx hb dL_law_1928 (by decide) (fun _ => ?_) (fun h9 => absurd (by decide) h9)
      refine lv_iinc (v := 6) (lv' := [(3, .int 6), (2, .ref m0), (1, .ref x0), (0, .ref b)]) hx hb dL_law_1933 hl (k := 0) rfl (by decide) (by decide) rfl (fun ls hl => ?_)
      refine lv_goto (tgt := 18) hx hb dL_law_1936 (by decide) ?_
      exact law_end l (Nat.le_refl 6) C0 hS (lv_sub hl [0, 3] rfl)
  · have hP : va_P D vwCl [(m0, .inr (12, [.int 0, .ref (qm 23), .ref (qm 0), .ref (qm 1), .ref (qm 2), .int 0, .ref (qm 3), .int 0, .int 0, .int 0, .int 0, .int 0, .int 0, .int (-1), .ref (qm 4), .ref (qm 5), .ref (qm 6), .ref (qm 7), .ref (qm 8), .ref (qm 9), .ref (qm 10), .ref (qm 11), .ref (qm 12), .int 0, .ref (qm 13), .int 0, .ref (qm 14), .int 0, .ref (qm 15), .ref (qm 16), .ref (qm 17), .int 0, .ref (qm 18), .int 0, .ref (qm 19), .ref (qm 20), .ref (qm 21), .ref (qm 22)])), ((qm 0), .inl (ty 1, 912, .inl (kf 0))), ((qm 1), .inl (ty 3, 3, .inl (kf 0))), ((qm 2), .inl (ty 0, 800, .inl (kf 0))), ((qm 3), .inl (ty 1, 5, .inl (kf 0))), ((qm 4), .inl (ty 1, 304, .inl (kf 0))), ((qm 5), .inl (ty 3, 28, .inl (kf 0))), ((qm 6), .inl (ty 1, 28, .inl (kf 0))), ((qm 7), .inl (ty 1, 256, .inl (kf 0))), ((qm 8), .inl (ty 1, 256, .inl (kf 0))), ((qm 9), .inl (ty 3, 16, .inl (kf 0))), ((qm 10), .inl (ty 1, 28, .inl (kf 0))), ((qm 11), .inl (ty 1, 28, .inl (kf 0))), ((qm 12), .inl (ty 1, 44, .inl (kf 0))), ((qm 13), .inl (ty 1, 2, .inl (kf 0))), ((qm 14), .inl (ty 1, 9, .inl (kf 0))), ((qm 15), .inl (ty 1, 512, .inl (kf 0))), ((qm 16), .inl (ty 1, 512, .inl (kf 0))), ((qm 17), .inl (ty 1, 16, .inl (kf 0))), ((qm 18), .inl (ty 1, 2, .inl (kf 0))), ((qm 19), .inl (ty 1, 4, .inl (upd (upd (upd (upd (kf 0) 0 (-1)) 1 (-1)) 2 (-1)) 3 (-1)))), ((qm 20), .inl (ty 1, 4, .inl (kf 0))), ((qm 21), .inl (ty 2, 240, .inr (.inl (kj 0)))), ((qm 22), .inl (ty 2, 60, .inr (.inl (kj 0)))), ((qm 23), .inl (ty 1, 304, .inl (upd (upd (kf 0) 1 2) 4 (-1))))] H := hP
    have hD : va_D (fun q : Nat => s.heap.size ≤ q) [(m0, .inr (12, [.int 0, .ref (qm 23), .ref (qm 0), .ref (qm 1), .ref (qm 2), .int 0, .ref (qm 3), .int 0, .int 0, .int 0, .int 0, .int 0, .int 0, .int (-1), .ref (qm 4), .ref (qm 5), .ref (qm 6), .ref (qm 7), .ref (qm 8), .ref (qm 9), .ref (qm 10), .ref (qm 11), .ref (qm 12), .int 0, .ref (qm 13), .int 0, .ref (qm 14), .int 0, .ref (qm 15), .ref (qm 16), .ref (qm 17), .int 0, .ref (qm 18), .int 0, .ref (qm 19), .ref (qm 20), .ref (qm 21), .ref (qm 22)])), ((qm 0), .inl (ty 1, 912, .inl (kf 0))), ((qm 1), .inl (ty 3, 3, .inl (kf 0))), ((qm 2), .inl (ty 0, 800, .inl (kf 0))), ((qm 3), .inl (ty 1, 5, .inl (kf 0))), ((qm 4), .inl (ty 1, 304, .inl (kf 0))), ((qm 5), .inl (ty 3, 28, .inl (kf 0))), ((qm 6), .inl (ty 1, 28, .inl (kf 0))), ((qm 7), .inl (ty 1, 256, .inl (kf 0))), ((qm 8), .inl (ty 1, 256, .inl (kf 0))), ((qm 9), .inl (ty 3, 16, .inl (kf 0))), ((qm 10), .inl (ty 1, 28, .inl (kf 0))), ((qm 11), .inl (ty 1, 28, .inl (kf 0))), ((qm 12), .inl (ty 1, 44, .inl (kf 0))), ((qm 13), .inl (ty 1, 2, .inl (kf 0))), ((qm 14), .inl (ty 1, 9, .inl (kf 0))), ((qm 15), .inl (ty 1, 512, .inl (kf 0))), ((qm 16), .inl (ty 1, 512, .inl (kf 0))), ((qm 17), .inl (ty 1, 16, .inl (kf 0))), ((qm 18), .inl (ty 1, 2, .inl (kf 0))), ((qm 19), .inl (ty 1, 4, .inl (upd (upd (upd (upd (kf 0) 0 (-1)) 1 (-1)) 2 (-1)) 3 (-1)))), ((qm 20), .inl (ty 1, 4, .inl (kf 0))), ((qm 21), .inl (ty 2, 240, .inr (.inl (kj 0)))), ((qm 22), .inl (ty 2, 60, .inr (.inl (kj 0)))), ((qm 23), .inl (ty 1, 304, .inl (upd (upd (kf 0) 1 2) 4 (-1))))] := hD
    refine lv_aload_n hx hb dL_law_1899 rfl (lv_at hl 1 rfl) ?_
    refine lv_aload_n hx hb dL_law_1900 rfl (lv_at hl 3 rfl) ?_
    refine lv_iload_n hx hb dL_law_1901 rfl (lv_at hl 0 rfl) ?_
    refine lv_iconst (v := 1) hx hb dL_law_1902 (by decide) ?_
    refine lv_iadd hx hb dL_law_1903 ?_
    refine tp_i (v := 1) (by decide) ?_
    refine va_sld hx hb hX hbl hbA hS (by unfold vp_in; decide) dL_law_1904 ?_
    refine tp_i (v := s1) h1 ?_
    refine lv_aload_n hx hb dL_law_1905 rfl (lv_at hl 3 rfl) ?_
    refine lv_iload_n hx hb dL_law_1906 rfl (lv_at hl 0 rfl) ?_
    refine lv_iconst (v := 2) hx hb dL_law_1907 (by decide) ?_
    refine lv_iadd hx hb dL_law_1908 ?_
    refine tp_i (v := 2) (by decide) ?_
    refine va_sld hx hb hX hbl hbA hS (by unfold vp_in; decide) dL_law_1909 ?_
    refine tp_i (v := s2) h2 ?_
    refine lv_aload_n hx hb dL_law_1910 rfl (lv_at hl 3 rfl) ?_
    refine lv_iload_n hx hb dL_law_1911 rfl (lv_at hl 0 rfl) ?_
    refine lv_iconst (v := 3) hx hb dL_law_1912 (by decide) ?_
    refine lv_iadd hx hb dL_law_1913 ?_
    refine tp_i (v := 3) (by decide) ?_
    refine va_sld hx hb hX hbl hbA hS (by unfold vp_in; decide) dL_law_1914 ?_
    refine tp_i (v := s3) h3 ?_
    refine lv_aload_n hx hb dL_law_1915 rfl (lv_at hl 3 rfl) ?_
    refine lv_iload_n hx hb dL_law_1916 rfl (lv_at hl 0 rfl) ?_
    refine lv_iconst (v := 4) hx hb dL_law_1917 (by decide) ?_
    refine lv_iadd hx hb dL_law_1918 ?_
    refine tp_i (v := 4) (by decide) ?_
    refine va_sld hx hb hX hbl hbA hS (by unfold vp_in; decide) dL_law_1919 ?_
    refine tp_i (v := s4) h4 ?_
    refine lv_aload_n hx hb dL_law_1920 rfl (lv_at hl 3 rfl) ?_
    refine lv_iload_n hx hb dL_law_1921 rfl (lv_at hl 0 rfl) ?_
    refine lv_iconst (v := 5) hx hb dL_law_1922 (by decide) ?_
    refine lv_iadd hx hb dL_law_1923 ?_
    refine tp_i (v := 5) (by decide) ?_
    refine va_sld hx hb hX hbl hbA hS (by unfold vp_in; decide) dL_law_1924 ?_
    refine tp_i (v := s5) h5 ?_
    refine kc_i (va_runV (As := [.int s1, .int s2, .int s3, .int s4, .int s5]) (rest := [.int (-6)]) ⟨hx, hb, hml, hown, hB⟩ (c229_X12_paste l D ty H.size m0 (qm 19) s1 s2 s3 s4 s5 (.int 0) (.ref (qm 23)) (.ref (qm 0)) (.ref (qm 1)) (.ref (qm 2)) (.int 0) (.ref (qm 3)) (.int 0) (.int 0) (.int 0) (.int 0) (.int 0) (.int 0) (.int (-1)) (.ref (qm 4)) (.ref (qm 5)) (.ref (qm 6)) (.ref (qm 7)) (.ref (qm 8)) (.ref (qm 9)) (.ref (qm 10)) (.ref (qm 11)) (.ref (qm 12)) (.int 0) (.ref (qm 13)) (.int 0) (.ref (qm 14)) (.int 0) (.ref (qm 15)) (.ref (qm 16)) (.ref (qm 17)) (.int 0) (.ref (qm 18)) (.int 0) (.ref (qm 20)) (.ref (qm 21)) (.ref (qm 22))) (cwV 5 hB (bw_V mw_1001 mw_1002 mw_1003 mw_211 mw_1000) rfl rfl rfl (by decide +kernel) ⟨Nat.le_of_ble_eq_true rfl, Nat.le_of_ble_eq_true rfl⟩) (kp_V hK hP hD [0, 20] (by decide) rfl 0 rfl rfl rfl) rfl rfl hl.1 rfl (lv_room (Nat.le_of_ble_eq_true rfl)) dL_law_1925 ⟨Nat.le_of_ble_eq_true rfl, Nat.le_of_ble_eq_true rfl⟩) hP hD hS hA [0, 20] [] (wr := []) rfl rfl (by decide) (by decide) (fun r u H locs w7 hP hD hS => ?_)
    rcases w7 with ⟨c8, rfl, rfl⟩ | ⟨c9, rfl, rfl⟩
    · have hP : va_P D vwCl [] H := hP
      have hD : va_D (fun q : Nat => s.heap.size ≤ q) [] := hD
      refine lv_icmp_eq (tgt := 1933) hx hb dL_law_1928 (by decide) (fun _ => ?_) (fun h9 => absurd (by decide) h9)
      refine lv_iinc (v := 6) (lv' := [(3, .int 6), (2, .ref m0), (1, .ref x0), (0, .ref b)]) hx hb dL_law_1933 hl (k := 0) rfl (by decide) (by decide) rfl (fun ls hl => ?_)
      refine lv_goto (tgt := 18) hx hb dL_law_1936 (by decide) ?_
      exact law_end l (Nat.le_refl 6) C0 hS (lv_sub hl [0, 3] rfl)
    · exact (ps_62 s1 s3 c3 c9).elim
