set_option maxHeartbeats 4000000 in
set_option maxRecDepth 100000 in
theorem br_33 {p : Program} {e : Env} {s : State} {m : MethodId} {below : List Frame} {meth : Method} {c : Code} (l : Launch) {b : Nat} {xs : Nat → Int32} (C0 : lw_At p s m meth c b 6 xs) (D : va_G) (ty : Nat → ClassId) (hK : kK D ty s) (x0 m0 : Nat) (qx qm : Nat → Nat) {H : Heap} {locs : List Loc} {ls : Array Slot} (hP : va_P D vwCl (lawW ty x0 m0 qx qm) H) (hD : va_D (fun q : Nat => s.heap.size ≤ q) (lawW ty x0 m0 qx qm)) (hS : va_S (fun q : Nat => s.heap.size ≤ q) s.heap H locs) (hl : lv_has ls 4 [(3, .int 0), (2, .ref m0), (1, .ref x0), (0, .ref b)]) :
    W p l e room_1 s m #[Value.ref b] below meth c H locs 200 10000 (lw_Z below #[Value.ref b] s) (F0 m 1197 ls []) := by
  obtain ⟨hx, hb, hr, hml, hown0, hts, hX, hbl, hlocks, hgv⟩ := id C0
  have hown : s.vm.findClass RL = some m.cls := hown0
  have hB : ∀ w ∈ bW, w.before #[Value.ref b] s = true := fun w h => hts w (bW_lw h)
  have hA : ∀ q : Nat, s.heap.size ≤ q → (fun q : Nat => s.heap.size ≤ q) q := fun _ h => h
  have hbA : ¬ (fun q : Nat => s.heap.size ≤ q) b := Nat.not_le.mpr hbl
  obtain ⟨s1, h1⟩ : ∃ y, xs 1 = y := ⟨_, rfl⟩
  obtain ⟨s2, h2⟩ : ∃ y, xs 2 = y := ⟨_, rfl⟩
  obtain ⟨s3, h3⟩ : ∃ y, xs 3 = y := ⟨_, rfl⟩
  obtain ⟨s4, h4⟩ : ∃ y, xs 4 = y := ⟨_, rfl⟩
  obtain ⟨s5, h5⟩ : ∃ y, xs 5 = y := ⟨_, rfl⟩
  refine lv_aload_n hx hb dL_law_1197 rfl (lv_at hl 2 rfl) ?_
  refine lv_aload_n hx hb dL_law_1198 rfl (lv_at hl 3 rfl) ?_
  refine lv_iload_n hx hb dL_law_1199 rfl (lv_at hl 0 rfl) ?_
  refine lv_iconst (v := 1) hx hb dL_law_1200 (by decide) ?_
  refine lv_iadd hx hb dL_law_1201 ?_
  refine tp_i (v := 1) (by decide) ?_
  refine va_sld hx hb hX hbl hbA hS (by unfold vp_in; decide) dL_law_1202 ?_
  refine tp_i (v := s1) h1 ?_
  refine lv_aload_n hx hb dL_law_1203 rfl (lv_at hl 3 rfl) ?_
  refine lv_iload_n hx hb dL_law_1204 rfl (lv_at hl 0 rfl) ?_
  refine lv_iconst (v := 2) hx hb dL_law_1205 (by decide) ?_
  refine lv_iadd hx hb dL_law_1206 ?_
  refine tp_i (v := 2) (by decide) ?_
  refine va_sld hx hb hX hbl hbA hS (by unfold vp_in; decide) dL_law_1207 ?_
  refine tp_i (v := s2) h2 ?_
  refine lv_aload_n hx hb dL_law_1208 rfl (lv_at hl 3 rfl) ?_
  refine lv_iload_n hx hb dL_law_1209 rfl (lv_at hl 0 rfl) ?_
  refine lv_iconst (v := 3) hx hb dL_law_1210 (by decide) ?_
  refine lv_iadd hx hb dL_law_1211 ?_
  refine tp_i (v := 3) (by decide) ?_
  refine va_sld hx hb hX hbl hbA hS (by unfold vp_in; decide) dL_law_1212 ?_
  refine tp_i (v := s3) h3 ?_
  refine kc_i (va_runV (As := [.int s1, .int s2, .int s3]) (rest := []) ⟨hx, hb, hml, hown, hB⟩ (c103_X11_arrive l D ty H.size x0 (qx 19) (qx 118) (qx 24) s1 s2 s3 (.ref (qx 0)) (.int 0) (.ref (qx 1)) (.ref (qx 35)) (.ref (qx 36)) (.ref (qx 119)) (.ref (qx 42)) (.ref (qx 44)) (.ref (qx 45)) (.ref (qx 50)) (.int (-1)) (.int (-1)) (.int (-1)) (.int (-1)) (.ref (qx 32)) (.int 0) (.int 0) (.int 2) (.int 0) (.int (-1)) (.int 0) (.int 0) (.ref (qx 20)) (.ref (qx 21)) (.ref (qx 22)) (.ref (qx 23)) (.int 0) (.int 0) (.ref (qx 28)) (.ref (qx 117)) (.ref (qx 31)) (.ref (qx 116)) (.int 0) (.ref (qx 25)) (.ref (qx 26)) (.ref (qx 27))) (cwV 3 hB (bw_V mw_828 mw_829 mw_830 mw_216 mw_827) rfl rfl rfl (by decide +kernel) ⟨Nat.le_of_ble_eq_true rfl, Nat.le_of_ble_eq_true rfl⟩) (kp_V hK hP hD [0, 20, 119, 25] (by decide) rfl 0 rfl rfl rfl) rfl rfl hl.1 rfl (lv_room (Nat.le_of_ble_eq_true rfl)) dL_law_1213 ⟨Nat.le_of_ble_eq_true rfl, Nat.le_of_ble_eq_true rfl⟩) hP hD hS hA [0, 20, 119, 25] [122, 123, 124, 125, 126, 127, 128, 129, 130, 131, 132, 133, 134, 135, 136, 137, 138, 139, 140, 141, 142, 143, 144, 145, 146] (wr := [(m0, .inr (12, [.int 0, .ref (qm 23), .ref (qm 0), .ref (qm 1), .ref (qm 2), .int 0, .ref (qm 3), .int 0, .int 0, .int 0, .int 0, .int 0, .int 0, .int (-1), .ref (qm 4), .ref (qm 5), .ref (qm 6), .ref (qm 7), .ref (qm 8), .ref (qm 9), .ref (qm 10), .ref (qm 11), .ref (qm 12), .int 0, .ref (qm 13), .int 0, .ref (qm 14), .int 0, .ref (qm 15), .ref (qm 16), .ref (qm 17), .int 0, .ref (qm 18), .int 0, .ref (qm 19), .ref (qm 20), .ref (qm 21), .ref (qm 22)])), ((qm 0), .inl (ty 1, 912, .inl (kf 0))), ((qm 1), .inl (ty 3, 3, .inl (kf 0))), ((qm 2), .inl (ty 0, 800, .inl (kf 0))), ((qm 3), .inl (ty 1, 5, .inl (kf 0))), ((qm 4), .inl (ty 1, 304, .inl (kf 0))), ((qm 5), .inl (ty 3, 28, .inl (kf 0))), ((qm 6), .inl (ty 1, 28, .inl (kf 0))), ((qm 7), .inl (ty 1, 256, .inl (kf 0))), ((qm 8), .inl (ty 1, 256, .inl (kf 0))), ((qm 9), .inl (ty 3, 16, .inl (kf 0))), ((qm 10), .inl (ty 1, 28, .inl (kf 0))), ((qm 11), .inl (ty 1, 28, .inl (kf 0))), ((qm 12), .inl (ty 1, 44, .inl (kf 0))), ((qm 13), .inl (ty 1, 2, .inl (kf 0))), ((qm 14), .inl (ty 1, 9, .inl (kf 0))), ((qm 15), .inl (ty 1, 512, .inl (kf 0))), ((qm 16), .inl (ty 1, 512, .inl (kf 0))), ((qm 17), .inl (ty 1, 16, .inl (kf 0))), ((qm 18), .inl (ty 1, 2, .inl (kf 0))), ((qm 19), .inl (ty 1, 4, .inl (upd (upd (upd (upd (kf 0) 0 (-1)) 1 (-1)) 2 (-1)) 3 (-1)))), ((qm 20), .inl (ty 1, 4, .inl (kf 0))), ((qm 21), .inl (ty 2, 240, .inr (.inl (kj 0)))), ((qm 22), .inl (ty 2, 60, .inr (.inl (kj 0)))), ((qm 23), .inl (ty 1, 304, .inl (upd (upd (kf 0) 1 2) 4 (-1))))]) rfl rfl (by decide) (by decide) (fun r u H locs w1 hP hD hS => ?_)
  obtain ⟨rfl, rfl⟩ := w1
  have hP : va_P D vwCl [(m0, .inr (12, [.int 0, .ref (qm 23), .ref (qm 0), .ref (qm 1), .ref (qm 2), .int 0, .ref (qm 3), .int 0, .int 0, .int 0, .int 0, .int 0, .int 0, .int (-1), .ref (qm 4), .ref (qm 5), .ref (qm 6), .ref (qm 7), .ref (qm 8), .ref (qm 9), .ref (qm 10), .ref (qm 11), .ref (qm 12), .int 0, .ref (qm 13), .int 0, .ref (qm 14), .int 0, .ref (qm 15), .ref (qm 16), .ref (qm 17), .int 0, .ref (qm 18), .int 0, .ref (qm 19), .ref (qm 20), .ref (qm 21), .ref (qm 22)])), ((qm 0), .inl (ty 1, 912, .inl (kf 0))), ((qm 1), .inl (ty 3, 3, .inl (kf 0))), ((qm 2), .inl (ty 0, 800, .inl (kf 0))), ((qm 3), .inl (ty 1, 5, .inl (kf 0))), ((qm 4), .inl (ty 1, 304, .inl (kf 0))), ((qm 5), .inl (ty 3, 28, .inl (kf 0))), ((qm 6), .inl (ty 1, 28, .inl (kf 0))), ((qm 7), .inl (ty 1, 256, .inl (kf 0))), ((qm 8), .inl (ty 1, 256, .inl (kf 0))), ((qm 9), .inl (ty 3, 16, .inl (kf 0))), ((qm 10), .inl (ty 1, 28, .inl (kf 0))), ((qm 11), .inl (ty 1, 28, .inl (kf 0))), ((qm 12), .inl (ty 1, 44, .inl (kf 0))), ((qm 13), .inl (ty 1, 2, .inl (kf 0))), ((qm 14), .inl (ty 1, 9, .inl (kf 0))), ((qm 15), .inl (ty 1, 512, .inl (kf 0))), ((qm 16), .inl (ty 1, 512, .inl (kf 0))), ((qm 17), .inl (ty 1, 16, .inl (kf 0))), ((qm 18), .inl (ty 1, 2, .inl (kf 0))), ((qm 19), .inl (ty 1, 4, .inl (upd (upd (upd (upd (kf 0) 0 (-1)) 1 (-1)) 2 (-1)) 3 (-1)))), ((qm 20), .inl (ty 1, 4, .inl (kf 0))), ((qm 21), .inl (ty 2, 240, .inr (.inl (kj 0)))), ((qm 22), .inl (ty 2, 60, .inr (.inl (kj 0)))), ((qm 23), .inl (ty 1, 304, .inl (upd (upd (kf 0) 1 2) 4 (-1))))] H := hP
  have hD : va_D (fun q : Nat => s.heap.size ≤ q) [(m0, .inr (12, [.int 0, .ref (qm 23), .ref (qm 0), .ref (qm 1), .ref (qm 2), .int 0, .ref (qm 3), .int 0, .int 0, .int 0, .int 0, .int 0, .int 0, .int (-1), .ref (qm 4), .ref (qm 5), .ref (qm 6), .ref (qm 7), .ref (qm 8), .ref (qm 9), .ref (qm 10), .ref (qm 11), .ref (qm 12), .int 0, .ref (qm 13), .int 0, .ref (qm 14), .int 0, .ref (qm 15), .ref (qm 16), .ref (qm 17), .int 0, .ref (qm 18), .int 0, .ref (qm 19), .ref (qm 20), .ref (qm 21), .ref (qm 22)])), ((qm 0), .inl (ty 1, 912, .inl (kf 0))), ((qm 1), .inl (ty 3, 3, .inl (kf 0))), ((qm 2), .inl (ty 0, 800, .inl (kf 0))), ((qm 3), .inl (ty 1, 5, .inl (kf 0))), ((qm 4), .inl (ty 1, 304, .inl (kf 0))), ((qm 5), .inl (ty 3, 28, .inl (kf 0))), ((qm 6), .inl (ty 1, 28, .inl (kf 0))), ((qm 7), .inl (ty 1, 256, .inl (kf 0))), ((qm 8), .inl (ty 1, 256, .inl (kf 0))), ((qm 9), .inl (ty 3, 16, .inl (kf 0))), ((qm 10), .inl (ty 1, 28, .inl (kf 0))), ((qm 11), .inl (ty 1, 28, .inl (kf 0))), ((qm 12), .inl (ty 1, 44, .inl (kf 0))), ((qm 13), .inl (ty 1, 2, .inl (kf 0))), ((qm 14), .inl (ty 1, 9, .inl (kf 0))), ((qm 15), .inl (ty 1, 512, .inl (kf 0))), ((qm 16), .inl (ty 1, 512, .inl (kf 0))), ((qm 17), .inl (ty 1, 16, .inl (kf 0))), ((qm 18), .inl (ty 1, 2, .inl (kf 0))), ((qm 19), .inl (ty 1, 4, .inl (upd (upd (upd (upd (kf 0) 0 (-1)) 1 (-1)) 2 (-1)) 3 (-1)))), ((qm 20), .inl (ty 1, 4, .inl (kf 0))), ((qm 21), .inl (ty 2, 240, .inr (.inl (kj 0)))), ((qm 22), .inl (ty 2, 60, .inr (.inl (kj 0)))), ((qm 23), .inl (ty 1, 304, .inl (upd (upd (kf 0) 1 2) 4 (-1))))] := hD
  refine lv_aload_n hx hb dL_law_1216 rfl (lv_at hl 1 rfl) ?_
  refine lv_aload_n hx hb dL_law_1217 rfl (lv_at hl 3 rfl) ?_
  refine lv_iload_n hx hb dL_law_1218 rfl (lv_at hl 0 rfl) ?_
  refine lv_iconst (v := 1) hx hb dL_law_1219 (by decide) ?_
  refine lv_iadd hx hb dL_law_1220 ?_
  refine tp_i (v := 1) (by decide) ?_
  refine va_sld hx hb hX hbl hbA hS (by unfold vp_in; decide) dL_law_1221 ?_
  refine tp_i (v := s1) h1 ?_
  refine lv_aload_n hx hb dL_law_1222 rfl (lv_at hl 3 rfl) ?_
  refine lv_iload_n hx hb dL_law_1223 rfl (lv_at hl 0 rfl) ?_
  refine lv_iconst (v := 2) hx hb dL_law_1224 (by decide) ?_
  refine lv_iadd hx hb dL_law_1225 ?_
  refine tp_i (v := 2) (by decide) ?_
  refine va_sld hx hb hX hbl hbA hS (by unfold vp_in; decide) dL_law_1226 ?_
  refine tp_i (v := s2) h2 ?_
  refine lv_aload_n hx hb dL_law_1227 rfl (lv_at hl 3 rfl) ?_
  refine lv_iload_n hx hb dL_law_1228 rfl (lv_at hl 0 rfl) ?_
  refine lv_iconst (v := 3) hx hb dL_law_1229 (by decide) ?_
  refine lv_iadd hx hb dL_law_1230 ?_
  refine tp_i (v := 3) (by decide) ?_
  refine va_sld hx hb hX hbl hbA hS (by unfold vp_in; decide) dL_law_1231 ?_
  refine tp_i (v := s3) h3 ?_
  refine kc_i (va_runV (As := [.int s1, .int s2, .int s3]) (rest := [.int (-2)]) ⟨hx, hb, hml, hown, hB⟩ (c201_X12_arrive l D ty H.size m0 (qm 23) s1 s2 s3 (.int 0) (.ref (qm 0)) (.ref (qm 1)) (.ref (qm 2)) (.int 0) (.ref (qm 3)) (.int 0) (.int 0) (.int 0) (.int 0) (.int 0) (.int 0) (.int (-1)) (.ref (qm 4)) (.ref (qm 5)) (.ref (qm 6)) (.ref (qm 7)) (.ref (qm 8)) (.ref (qm 9)) (.ref (qm 10)) (.ref (qm 11)) (.ref (qm 12)) (.int 0) (.ref (qm 13)) (.int 0) (.ref (qm 14)) (.int 0) (.ref (qm 15)) (.ref (qm 16)) (.ref (qm 17)) (.int 0) (.ref (qm 18)) (.int 0) (.ref (qm 19)) (.ref (qm 20)) (.ref (qm 21)) (.ref (qm 22))) (cwV 3 hB (bw_V mw_832 mw_833 mw_834 mw_211 mw_831) rfl rfl rfl (by decide +kernel) ⟨Nat.le_of_ble_eq_true rfl, Nat.le_of_ble_eq_true rfl⟩) (kp_V hK hP hD [0, 24] (by decide) rfl 0 rfl rfl rfl) rfl rfl hl.1 rfl (lv_room (Nat.le_of_ble_eq_true rfl)) dL_law_1232 ⟨Nat.le_of_ble_eq_true rfl, Nat.le_of_ble_eq_true rfl⟩) hP hD hS hA [0, 24] [] (wr := []) rfl rfl (by decide) (by decide) (fun r u H locs w2 hP hD hS => ?_)
  obtain ⟨rfl, rfl⟩ := w2
  have hP : va_P D vwCl [] H := hP
  have hD : va_D (fun q : Nat => s.heap.size ≤ q) [] := hD
  refine lv_icmp_eq (tgt := 1933) hx hb dL_law_1235 (by decide) (fun _ => ?_) (fun h9 => absurd (by decide) h9)
  refine lv_iinc (v := 6) (lv' := [(3, .int 6), (2, .ref m0), (1, .ref x0), (0, .ref b)]) hx hb dL_law_1933 hl (k := 0) rfl (by decide) (by decide) rfl (fun ls hl => ?_)
  refine lv_goto (tgt := 18) hx hb dL_law_1936 (by decide) ?_
  exact law_end l (Nat.le_refl 6) C0 hS (lv_sub hl [0, 3] rfl)

set_option maxHeartbeats 4000000 in
set_option maxRecDepth 100000 in
theorem br_34 {p : Program} {e : Env} {s : State} {m : MethodId} {below : List Frame} {meth : Method} {c : Code} (l : Launch) {b : Nat} {xs : Nat → Int32} (C0 : lw_At p s m meth c b 6 xs) (D : va_G) (ty : Nat → ClassId) (hK : kK D ty s) (x0 m0 : Nat) (qx qm : Nat → Nat) {H : Heap} {locs : List Loc} {ls : Array Slot} (hP : va_P D vwCl (lawW ty x0 m0 qx qm) H) (hD : va_D (fun q : Nat => s.heap.size ≤ q) (lawW ty x0 m0 qx qm)) (hS : va_S (fun q : Nat => s.heap.size ≤ q) s.heap H locs) (hl : lv_has ls 4 [(3, .int 0), (2, .ref m0), (1, .ref x0), (0, .ref b)]) :
    W p l e room_1 s m #[Value.ref b] below meth c H locs 200 10000 (lw_Z below #[Value.ref b] s) (F0 m 1240 ls []) := by
  obtain ⟨hx, hb, hr, hml, hown0, hts, hX, hbl, hlocks, hgv⟩ := id C0
  have hown : s.vm.findClass RL = some m.cls := hown0
  have hB : ∀ w ∈ bW, w.before #[Value.ref b] s = true := fun w h => hts w (bW_lw h)
  have hA : ∀ q : Nat, s.heap.size ≤ q → (fun q : Nat => s.heap.size ≤ q) q := fun _ h => h
  have hbA : ¬ (fun q : Nat => s.heap.size ≤ q) b := Nat.not_le.mpr hbl
  obtain ⟨s1, h1⟩ : ∃ y, xs 1 = y := ⟨_, rfl⟩
  obtain ⟨s2, h2⟩ : ∃ y, xs 2 = y := ⟨_, rfl⟩
  obtain ⟨s3, h3⟩ : ∃ y, xs 3 = y := ⟨_, rfl⟩
  obtain ⟨s4, h4⟩ : ∃ y, xs 4 = y := ⟨_, rfl⟩
  obtain ⟨s5, h5⟩ : ∃ y, xs 5 = y := ⟨_, rfl⟩
  refine lv_aload_n hx hb dL_law_1240 rfl (lv_at hl 2 rfl) ?_
  refine lv_aload_n hx hb dL_law_1241 rfl (lv_at hl 3 rfl) ?_
  refine lv_iload_n hx hb dL_law_1242 rfl (lv_at hl 0 rfl) ?_
  refine lv_iconst (v := 1) hx hb dL_law_1243 (by decide) ?_
  refine lv_iadd hx hb dL_law_1244 ?_
  refine tp_i (v := 1) (by decide) ?_
  refine va_sld hx hb hX hbl hbA hS (by unfold vp_in; decide) dL_law_1245 ?_
  refine tp_i (v := s1) h1 ?_
  refine lv_aload_n hx hb dL_law_1246 rfl (lv_at hl 3 rfl) ?_
  refine lv_iload_n hx hb dL_law_1247 rfl (lv_at hl 0 rfl) ?_
  refine lv_iconst (v := 2) hx hb dL_law_1248 (by decide) ?_
  refine lv_iadd hx hb dL_law_1249 ?_
  refine tp_i (v := 2) (by decide) ?_
  refine va_sld hx hb hX hbl hbA hS (by unfold vp_in; decide) dL_law_1250 ?_
  refine tp_i (v := s2) h2 ?_
  refine kc_i (va_runV (As := [.int s1, .int s2]) (rest := []) ⟨hx, hb, hml, hown, hB⟩ (c104_X11_reach l D ty H.size x0 (qx 19) (qx 118) s1 s2 (.ref (qx 0)) (.int 0) (.ref (qx 1)) (.ref (qx 35)) (.ref (qx 36)) (.ref (qx 119)) (.ref (qx 42)) (.ref (qx 44)) (.ref (qx 45)) (.ref (qx 50)) (.int (-1)) (.int (-1)) (.int (-1)) (.int (-1)) (.ref (qx 32)) (.int 0) (.int 0) (.int 2) (.int 0) (.int 0) (.int 0) (.ref (qx 20)) (.ref (qx 21)) (.ref (qx 22)) (.ref (qx 23)) (.int 0) (.int 0) (.ref (qx 24)) (.ref (qx 28)) (.ref (qx 117)) (.ref (qx 31)) (.ref (qx 116)) (.int 0)) (cwV 2 hB (bw_V mw_836 mw_837 mw_838 mw_216 mw_835) rfl rfl rfl (by decide +kernel) ⟨Nat.le_of_ble_eq_true rfl, Nat.le_of_ble_eq_true rfl⟩) (kp_V hK hP hD [0, 20, 119] (by decide) rfl 0 rfl rfl rfl) rfl rfl hl.1 rfl (lv_room (Nat.le_of_ble_eq_true rfl)) dL_law_1251 ⟨Nat.le_of_ble_eq_true rfl, Nat.le_of_ble_eq_true rfl⟩) hP hD hS hA [0, 20, 119] [122, 123, 124, 125, 126, 127, 128, 129, 130, 131, 132, 133, 134, 135, 136, 137, 138, 139, 140, 141, 142, 143, 144, 145, 146] (wr := [(m0, .inr (12, [.int 0, .ref (qm 23), .ref (qm 0), .ref (qm 1), .ref (qm 2), .int 0, .ref (qm 3), .int 0, .int 0, .int 0, .int 0, .int 0, .int 0, .int (-1), .ref (qm 4), .ref (qm 5), .ref (qm 6), .ref (qm 7), .ref (qm 8), .ref (qm 9), .ref (qm 10), .ref (qm 11), .ref (qm 12), .int 0, .ref (qm 13), .int 0, .ref (qm 14), .int 0, .ref (qm 15), .ref (qm 16), .ref (qm 17), .int 0, .ref (qm 18), .int 0, .ref (qm 19), .ref (qm 20), .ref (qm 21), .ref (qm 22)])), ((qm 0), .inl (ty 1, 912, .inl (kf 0))), ((qm 1), .inl (ty 3, 3, .inl (kf 0))), ((qm 2), .inl (ty 0, 800, .inl (kf 0))), ((qm 3), .inl (ty 1, 5, .inl (kf 0))), ((qm 4), .inl (ty 1, 304, .inl (kf 0))), ((qm 5), .inl (ty 3, 28, .inl (kf 0))), ((qm 6), .inl (ty 1, 28, .inl (kf 0))), ((qm 7), .inl (ty 1, 256, .inl (kf 0))), ((qm 8), .inl (ty 1, 256, .inl (kf 0))), ((qm 9), .inl (ty 3, 16, .inl (kf 0))), ((qm 10), .inl (ty 1, 28, .inl (kf 0))), ((qm 11), .inl (ty 1, 28, .inl (kf 0))), ((qm 12), .inl (ty 1, 44, .inl (kf 0))), ((qm 13), .inl (ty 1, 2, .inl (kf 0))), ((qm 14), .inl (ty 1, 9, .inl (kf 0))), ((qm 15), .inl (ty 1, 512, .inl (kf 0))), ((qm 16), .inl (ty 1, 512, .inl (kf 0))), ((qm 17), .inl (ty 1, 16, .inl (kf 0))), ((qm 18), .inl (ty 1, 2, .inl (kf 0))), ((qm 19), .inl (ty 1, 4, .inl (upd (upd (upd (upd (kf 0) 0 (-1)) 1 (-1)) 2 (-1)) 3 (-1)))), ((qm 20), .inl (ty 1, 4, .inl (kf 0))), ((qm 21), .inl (ty 2, 240, .inr (.inl (kj 0)))), ((qm 22), .inl (ty 2, 60, .inr (.inl (kj 0)))), ((qm 23), .inl (ty 1, 304, .inl (upd (upd (kf 0) 1 2) 4 (-1))))]) rfl rfl (by decide) (by decide) (fun r u H locs w1 hP hD hS => ?_)
  rcases w1 with ⟨c2, rfl, rfl⟩ | ⟨c3, rfl, rfl⟩
  · have hP : va_P D vwCl [(m0, .inr (12, [.int 0, .ref (qm 23), .ref (qm 0), .ref (qm 1), .ref (qm 2), .int 0, .ref (qm 3), .int 0, .int 0, .int 0, .int 0, .int 0, .int 0, .int (-1), .ref (qm 4), .ref (qm 5), .ref (qm 6), .ref (qm 7), .ref (qm 8), .ref (qm 9), .ref (qm 10), .ref (qm 11), .ref (qm 12), .int 0, .ref (qm 13), .int 0, .ref (qm 14), .int 0, .ref (qm 15), .ref (qm 16), .ref (qm 17), .int 0, .ref (qm 18), .int 0, .ref (qm 19), .ref (qm 20), .ref (qm 21), .ref (qm 22)])), ((qm 0), .inl (ty 1, 912, .inl (kf 0))), ((qm 1), .inl (ty 3, 3, .inl (kf 0))), ((qm 2), .inl (ty 0, 800, .inl (kf 0))), ((qm 3), .inl (ty 1, 5, .inl (kf 0))), ((qm 4), .inl (ty 1, 304, .inl (kf 0))), ((qm 5), .inl (ty 3, 28, .inl (kf 0))), ((qm 6), .inl (ty 1, 28, .inl (kf 0))), ((qm 7), .inl (ty 1, 256, .inl (kf 0))), ((qm 8), .inl (ty 1, 256, .inl (kf 0))), ((qm 9), .inl (ty 3, 16, .inl (kf 0))), ((qm 10), .inl (ty 1, 28, .inl (kf 0))), ((qm 11), .inl (ty 1, 28, .inl (kf 0))), ((qm 12), .inl (ty 1, 44, .inl (kf 0))), ((qm 13), .inl (ty 1, 2, .inl (kf 0))), ((qm 14), .inl (ty 1, 9, .inl (kf 0))), ((qm 15), .inl (ty 1, 512, .inl (kf 0))), ((qm 16), .inl (ty 1, 512, .inl (kf 0))), ((qm 17), .inl (ty 1, 16, .inl (kf 0))), ((qm 18), .inl (ty 1, 2, .inl (kf 0))), ((qm 19), .inl (ty 1, 4, .inl (upd (upd (upd (upd (kf 0) 0 (-1)) 1 (-1)) 2 (-1)) 3 (-1)))), ((qm 20), .inl (ty 1, 4, .inl (kf 0))), ((qm 21), .inl (ty 2, 240, .inr (.inl (kj 0)))), ((qm 22), .inl (ty 2, 60, .inr (.inl (kj 0)))), ((qm 23), .inl (ty 1, 304, .inl (upd (upd (kf 0) 1 2) 4 (-1))))] H := hP
    have hD : va_D (fun q : Nat => s.heap.size ≤ q) [(m0, .inr (12, [.int 0, .ref (qm 23), .ref (qm 0), .ref (qm 1), .ref (qm 2), .int 0, .ref (qm 3), .int 0, .int 0, .int 0, .int 0, .int 0, .int 0, .int (-1), .ref (qm 4), .ref (qm 5), .ref (qm 6), .ref (qm 7), .ref (qm 8), .ref (qm 9), .ref (qm 10), .ref (qm 11), .ref (qm 12), .int 0, .ref (qm 13), .int 0, .ref (qm 14), .int 0, .ref (qm 15), .ref (qm 16), .ref (qm 17), .int 0, .ref (qm 18), .int 0, .ref (qm 19), .ref (qm 20), .ref (qm 21), .ref (qm 22)])), ((qm 0), .inl (ty 1, 912, .inl (kf 0))), ((qm 1), .inl (ty 3, 3, .inl (kf 0))), ((qm 2), .inl (ty 0, 800, .inl (kf 0))), ((qm 3), .inl (ty 1, 5, .inl (kf 0))), ((qm 4), .inl (ty 1, 304, .inl (kf 0))), ((qm 5), .inl (ty 3, 28, .inl (kf 0))), ((qm 6), .inl (ty 1, 28, .inl (kf 0))), ((qm 7), .inl (ty 1, 256, .inl (kf 0))), ((qm 8), .inl (ty 1, 256, .inl (kf 0))), ((qm 9), .inl (ty 3, 16, .inl (kf 0))), ((qm 10), .inl (ty 1, 28, .inl (kf 0))), ((qm 11), .inl (ty 1, 28, .inl (kf 0))), ((qm 12), .inl (ty 1, 44, .inl (kf 0))), ((qm 13), .inl (ty 1, 2, .inl (kf 0))), ((qm 14), .inl (ty 1, 9, .inl (kf 0))), ((qm 15), .inl (ty 1, 512, .inl (kf 0))), ((qm 16), .inl (ty 1, 512, .inl (kf 0))), ((qm 17), .inl (ty 1, 16, .inl (kf 0))), ((qm 18), .inl (ty 1, 2, .inl (kf 0))), ((qm 19), .inl (ty 1, 4, .inl (upd (upd (upd (upd (kf 0) 0 (-1)) 1 (-1)) 2 (-1)) 3 (-1)))), ((qm 20), .inl (ty 1, 4, .inl (kf 0))), ((qm 21), .inl (ty 2, 240, .inr (.inl (kj 0)))), ((qm 22), .inl (ty 2, 60, .inr (.inl (kj 0)))), ((qm 23), .inl (ty 1, 304, .inl (upd (upd (kf 0) 1 2) 4 (-1))))] := hD
    refine lv_aload_n hx hb dL_law_1254 rfl (lv_at hl 1 rfl) ?_
    refine lv_aload_n hx hb dL_law_1255 rfl (lv_at hl 3 rfl) ?_
    refine lv_iload_n hx hb dL_law_1256 rfl (lv_at hl 0 rfl) ?_
    refine lv_iconst (v := 1) hx hb dL_law_1257 (by decide) ?_
    refine lv_iadd hx hb dL_law_1258 ?_
    refine tp_i (v := 1) (by decide) ?_
    refine va_sld hx hb hX hbl hbA hS (by unfold vp_in; decide) dL_law_1259 ?_
    refine tp_i (v := s1) h1 ?_
    refine lv_aload_n hx hb dL_law_1260 rfl (lv_at hl 3 rfl) ?_
    refine lv_iload_n hx hb dL_law_1261 rfl (lv_at hl 0 rfl) ?_
    refine lv_iconst (v := 2) hx hb dL_law_1262 (by decide) ?_
    refine lv_iadd hx hb dL_law_1263 ?_
    refine tp_i (v := 2) (by decide) ?_
    refine va_sld hx hb hX hbl hbA hS (by unfold vp_in; decide) dL_law_1264 ?_
    refine tp_i (v := s2) h2 ?_
    refine kc_i (va_runV (As := [.int s1, .int s2]) (rest := [.int (-2)]) ⟨hx, hb, hml, hown, hB⟩ (c202_X12_reach l D ty H.size m0 (qm 23) s1 s2 (.int 0) (.ref (qm 0)) (.ref (qm 1)) (.ref (qm 2)) (.int 0) (.ref (qm 3)) (.int 0) (.int 0) (.int 0) (.int 0) (.int 0) (.int 0) (.int (-1)) (.ref (qm 4)) (.ref (qm 5)) (.ref (qm 6)) (.ref (qm 7)) (.ref (qm 8)) (.ref (qm 9)) (.ref (qm 10)) (.ref (qm 11)) (.ref (qm 12)) (.int 0) (.ref (qm 13)) (.int 0) (.ref (qm 14)) (.int 0) (.ref (qm 15)) (.ref (qm 16)) (.ref (qm 17)) (.int 0) (.ref (qm 18)) (.int 0) (.ref (qm 19)) (.ref (qm 20)) (.ref (qm 21)) (.ref (qm 22))) (cwV 2 hB (bw_V mw_840 mw_841 mw_842 mw_211 mw_839) rfl rfl rfl (by decide +kernel) ⟨Nat.le_of_ble_eq_true rfl, Nat.le_of_ble_eq_true rfl⟩) (kp_V hK hP hD [0, 24] (by decide) rfl 0 rfl rfl rfl) rfl rfl hl.1 rfl (lv_room (Nat.le_of_ble_eq_true rfl)) dL_law_1265 ⟨Nat.le_of_ble_eq_true rfl, Nat.le_of_ble_eq_true rfl⟩) hP hD hS hA [0, 24] [] (wr := []) rfl rfl (by decide) (by decide) (fun r u H locs w4 hP hD hS => ?_)
    rcases w4 with ⟨c5, rfl, rfl⟩ | ⟨c6, rfl, rfl⟩
    · exact (ps_31 s1 s2 c2 c5).elim
    · have hP : va_P D vwCl [] H := hP
      have hD : va_D (fun q : Nat => s.heap.size ≤ q) [] := hD
      refine lv_icmp_eq (tgt := 1933) hx hb dL_law_1268 (by decide) (fun _ => ?_) (fun h9 => absurd (by decide) h9)
      refine lv_iinc (v := 6) (lv' := [(3, .int 6), (2, .ref m0), (1, .ref x0), (0, .ref b)]) hx hb dL_law_1933 hl (k := 0) rfl (by decide) (by decide) rfl (fun ls hl => ?_)
      refine lv_goto (tgt := 18) hx hb dL_law_1936 (by decide) ?_
      exact law_end l (Nat.le_refl 6) C0 hS (lv_sub hl [0, 3] rfl)
  · have hP : va_P D vwCl [(m0, .inr (12, [.int 0, .ref (qm 23), .ref (qm 0), .ref (qm 1), .ref (qm 2), .int 0, .ref (qm 3), .int 0, .int 0, .int 0, .int 0, .int 0, .int 0, .int (-1), .ref (qm 4), .ref (qm 5), .ref (qm 6), .ref (qm 7), .ref (qm 8), .ref (qm 9), .ref (qm 10), .ref (qm 11), .ref (qm 12), .int 0, .ref (qm 13), .int 0, .ref (qm 14), .int 0, .ref (qm 15), .ref (qm 16), .ref (qm 17), .int 0, .ref (qm 18), .int 0, .ref (qm 19), .ref (qm 20), .ref (qm 21), .ref (qm 22)])), ((qm 0), .inl (ty 1, 912, .inl (kf 0))), ((qm 1), .inl (ty 3, 3, .inl (kf 0))), ((qm 2), .inl (ty 0, 800, .inl (kf 0))), ((qm 3), .inl (ty 1, 5, .inl (kf 0))), ((qm 4), .inl (ty 1, 304, .inl (kf 0))), ((qm 5), .inl (ty 3, 28, .inl (kf 0))), ((qm 6), .inl (ty 1, 28, .inl (kf 0))), ((qm 7), .inl (ty 1, 256, .inl (kf 0))), ((qm 8), .inl (ty 1, 256, .inl (kf 0))), ((qm 9), .inl (ty 3, 16, .inl (kf 0))), ((qm 10), .inl (ty 1, 28, .inl (kf 0))), ((qm 11), .inl (ty 1, 28, .inl (kf 0))), ((qm 12), .inl (ty 1, 44, .inl (kf 0))), ((qm 13), .inl (ty 1, 2, .inl (kf 0))), ((qm 14), .inl (ty 1, 9, .inl (kf 0))), ((qm 15), .inl (ty 1, 512, .inl (kf 0))), ((qm 16), .inl (ty 1, 512, .inl (kf 0))), ((qm 17), .inl (ty 1, 16, .inl (kf 0))), ((qm 18), .inl (ty 1, 2, .inl (kf 0))), ((qm 19), .inl (ty 1, 4, .inl (upd (upd (upd (upd (kf 0) 0 (-1)) 1 (-1)) 2 (-1)) 3 (-1)))), ((qm 20), .inl (ty 1, 4, .inl (kf 0))), ((qm 21), .inl (ty 2, 240, .inr (.inl (kj 0)))), ((qm 22), .inl (ty 2, 60, .inr (.inl (kj 0)))), ((qm 23), .inl (ty 1, 304, .inl (upd (upd (kf 0) 1 2) 4 (-1))))] H := hP
    have hD : va_D (fun q : Nat => s.heap.size ≤ q) [(m0, .inr (12, [.int 0, .ref (qm 23), .ref (qm 0), .ref (qm 1), .ref (qm 2), .int 0, .ref (qm 3), .int 0, .int 0, .int 0, .int 0, .int 0, .int 0, .int (-1), .ref (qm 4), .ref (qm 5), .ref (qm 6), .ref (qm 7), .ref (qm 8), .ref (qm 9), .ref (qm 10), .ref (qm 11), .ref (qm 12), .int 0, .ref (qm 13), .int 0, .ref (qm 14), .int 0, .ref (qm 15), .ref (qm 16), .ref (qm 17), .int 0, .ref (qm 18), .int 0, .ref (qm 19), .ref (qm 20), .ref (qm 21), .ref (qm 22)])), ((qm 0), .inl (ty 1, 912, .inl (kf 0))), ((qm 1), .inl (ty 3, 3, .inl (kf 0))), ((qm 2), .inl (ty 0, 800, .inl (kf 0))), ((qm 3), .inl (ty 1, 5, .inl (kf 0))), ((qm 4), .inl (ty 1, 304, .inl (kf 0))), ((qm 5), .inl (ty 3, 28, .inl (kf 0))), ((qm 6), .inl (ty 1, 28, .inl (kf 0))), ((qm 7), .inl (ty 1, 256, .inl (kf 0))), ((qm 8), .inl (ty 1, 256, .inl (kf 0))), ((qm 9), .inl (ty 3, 16, .inl (kf 0))), ((qm 10), .inl (ty 1, 28, .inl (kf 0))), ((qm 11), .inl (ty 1, 28, .inl (kf 0))), ((qm 12), .inl (ty 1, 44, .inl (kf 0))), ((qm 13), .inl (ty 1, 2, .inl (kf 0))), ((qm 14), .inl (ty 1, 9, .inl (kf 0))), ((qm 15), .inl (ty 1, 512, .inl (kf 0))), ((qm 16), .inl (ty 1, 512, .inl (kf 0))), ((qm 17), .inl (ty 1, 16, .inl (kf 0))), ((qm 18), .inl (ty 1, 2, .inl (kf 0))), ((qm 19), .inl (ty 1, 4, .inl (upd (upd (upd (upd (kf 0) 0 (-1)) 1 (-1)) 2 (-1)) 3 (-1)))), ((qm 20), .inl (ty 1, 4, .inl (kf 0))), ((qm 21), .inl (ty 2, 240, .inr (.inl (kj 0)))), ((qm 22), .inl (ty 2, 60, .inr (.inl (kj 0)))), ((qm 23), .inl (ty 1, 304, .inl (upd (upd (kf 0) 1 2) 4 (-1))))] := hD
    refine lv_aload_n hx hb dL_law_1254 rfl (lv_at hl 1 rfl) ?_
    refine lv_aload_n hx hb dL_law_1255 rfl (lv_at hl 3 rfl) ?_
    refine lv_iload_n hx hb dL_law_1256 rfl (lv_at hl 0 rfl) ?_
    refine lv_iconst (v := 1) hx hb dL_law_1257 (by decide) ?_
    refine lv_iadd hx hb dL_law_1258 ?_
    refine tp_i (v := 1) (by decide) ?_
    refine va_sld hx hb hX hbl hbA hS (by unfold vp_in; decide) dL_law_1259 ?_
    refine tp_i (v := s1) h1 ?_
    refine lv_aload_n hx hb dL_law_1260 rfl (lv_at hl 3 rfl) ?_
    refine lv_iload_n hx hb dL_law_1261 rfl (lv_at hl 0 rfl) ?_
    refine lv_iconst (v := 2) hx hb dL_law_1262 (by decide) ?_
    refine lv_iadd hx hb dL_law_1263 ?_
    refine tp_i (v := 2) (by decide) ?_
    refine va_sld hx hb hX hbl hbA hS (by unfold vp_in; decide) dL_law_1264 ?_
    refine tp_i (v := s2) h2 ?_
    refine kc_i (va_runV (As := [.int s1, .int s2]) (rest := [.int (-6)]) ⟨hx, hb, hml, hown, hB⟩ (c202_X12_reach l D ty H.size m0 (qm 23) s1 s2 (.int 0) (.ref (qm 0)) (.ref (qm 1)) (.ref (qm 2)) (.int 0) (.ref (qm 3)) (.int 0) (.int 0) (.int 0) (.int 0) (.int 0) (.int 0) (.int (-1)) (.ref (qm 4)) (.ref (qm 5)) (.ref (qm 6)) (.ref (qm 7)) (.ref (qm 8)) (.ref (qm 9)) (.ref (qm 10)) (.ref (qm 11)) (.ref (qm 12)) (.int 0) (.ref (qm 13)) (.int 0) (.ref (qm 14)) (.int 0) (.ref (qm 15)) (.ref (qm 16)) (.ref (qm 17)) (.int 0) (.ref (qm 18)) (.int 0) (.ref (qm 19)) (.ref (qm 20)) (.ref (qm 21)) (.ref (qm 22))) (cwV 2 hB (bw_V mw_840 mw_841 mw_842 mw_211 mw_839) rfl rfl rfl (by decide +kernel) ⟨Nat.le_of_ble_eq_true rfl, Nat.le_of_ble_eq_true rfl⟩) (kp_V hK hP hD [0, 24] (by decide) rfl 0 rfl rfl rfl) rfl rfl hl.1 rfl (lv_room (Nat.le_of_ble_eq_true rfl)) dL_law_1265 ⟨Nat.le_of_ble_eq_true rfl, Nat.le_of_ble_eq_true rfl⟩) hP hD hS hA [0, 24] [] (wr := []) rfl rfl (by decide) (by decide) (fun r u H locs w7 hP hD hS => ?_)
    rcases w7 with ⟨c8, rfl, rfl⟩ | ⟨c9, rfl, rfl⟩
    · have hP : va_P D vwCl [] H := hP
      have hD : va_D (fun q : Nat => s.heap.size ≤ q) [] := hD
      refine lv_icmp_eq (tgt := 1933) hx hb dL_law_1268 (by decide) (fun _ => ?_) (fun h9 => absurd (by decide) h9)
      refine lv_iinc (v := 6) (lv' := [(3, .int 6), (2, .ref m0), (1, .ref x0), (0, .ref b)]) hx hb dL_law_1933 hl (k := 0) rfl (by decide) (by decide) rfl (fun ls hl => ?_)
      refine lv_goto (tgt := 18) hx hb dL_law_1936 (by decide) ?_
      exact law_end l (Nat.le_refl 6) C0 hS (lv_sub hl [0, 3] rfl)
    · exact (ps_32 s1 s2 c3 c9).elim

set_option maxHeartbeats 4000000 in
set_option maxRecDepth 100000 in
theorem br_35 {p : Program} {e : Env} {s : State} {m : MethodId} {below : List Frame} {meth : Method} {c : Code} (l : Launch) {b : Nat} {xs : Nat → Int32} (C0 : lw_At p s m meth c b 6 xs) (D : va_G) (ty : Nat → ClassId) (hK : kK D ty s) (x0 m0 : Nat) (qx qm : Nat → Nat) {H : Heap} {locs : List Loc} {ls : Array Slot} (hP : va_P D vwCl (lawW ty x0 m0 qx qm) H) (hD : va_D (fun q : Nat => s.heap.size ≤ q) (lawW ty x0 m0 qx qm)) (hS : va_S (fun q : Nat => s.heap.size ≤ q) s.heap H locs) (hl : lv_has ls 4 [(3, .int 0), (2, .ref m0), (1, .ref x0), (0, .ref b)]) :
    W p l e room_1 s m #[Value.ref b] below meth c H locs 200 10000 (lw_Z below #[Value.ref b] s) (F0 m 1273 ls []) := by
  obtain ⟨hx, hb, hr, hml, hown0, hts, hX, hbl, hlocks, hgv⟩ := id C0
  have hown : s.vm.findClass RL = some m.cls := hown0
  have hB : ∀ w ∈ bW, w.before #[Value.ref b] s = true := fun w h => hts w (bW_lw h)
  have hA : ∀ q : Nat, s.heap.size ≤ q → (fun q : Nat => s.heap.size ≤ q) q := fun _ h => h
  have hbA : ¬ (fun q : Nat => s.heap.size ≤ q) b := Nat.not_le.mpr hbl
  obtain ⟨s1, h1⟩ : ∃ y, xs 1 = y := ⟨_, rfl⟩
  obtain ⟨s2, h2⟩ : ∃ y, xs 2 = y := ⟨_, rfl⟩
  obtain ⟨s3, h3⟩ : ∃ y, xs 3 = y := ⟨_, rfl⟩
  obtain ⟨s4, h4⟩ : ∃ y, xs 4 = y := ⟨_, rfl⟩
  obtain ⟨s5, h5⟩ : ∃ y, xs 5 = y := ⟨_, rfl⟩
  refine lv_aload_n hx hb dL_law_1273 rfl (lv_at hl 2 rfl) ?_
  refine lv_aload_n hx hb dL_law_1274 rfl (lv_at hl 3 rfl) ?_
  refine lv_iload_n hx hb dL_law_1275 rfl (lv_at hl 0 rfl) ?_
  refine lv_iconst (v := 1) hx hb dL_law_1276 (by decide) ?_
  refine lv_iadd hx hb dL_law_1277 ?_
  refine tp_i (v := 1) (by decide) ?_
  refine va_sld hx hb hX hbl hbA hS (by unfold vp_in; decide) dL_law_1278 ?_
  refine tp_i (v := s1) h1 ?_
  refine kc_i (va_runV (As := [.int s1]) (rest := []) ⟨hx, hb, hml, hown, hB⟩ (c105_X11_afternoon l D ty H.size x0 (qx 19) (qx 32) (qx 118) (qx 119) (qx 39) (qx 40) s1 (.ref (qx 0)) (.int 0) (.ref (qx 1)) (.ref (qx 35)) (.ref (qx 36)) (.ref (qx 42)) (.ref (qx 44)) (.ref (qx 45)) (.ref (qx 50)) (.int (-1)) (.int (-1)) (.int (-1)) (.int (-1)) (.int 0) (qx 33) (qx 34) (.int 0) (.int (-1)) (.int 0) (.int 0) (.ref (qx 20)) (.ref (qx 21)) (.ref (qx 22)) (.ref (qx 23)) (.int 0) (.int 0) (.ref (qx 24)) (.ref (qx 28)) (.ref (qx 117)) (.ref (qx 31)) (.ref (qx 116)) (.int 0) (.ref (qx 120)) (.ref (qx 37)) (.ref (qx 38)) (.ref (qx 41)) (kf 0) (kf 0)) (cwV 1 hB (bw_V mw_844 mw_845 mw_846 mw_216 mw_843) rfl rfl rfl (by decide +kernel) ⟨Nat.le_of_ble_eq_true rfl, Nat.le_of_ble_eq_true rfl⟩) (kp_V hK hP hD [0, 20, 33, 119, 120, 40, 41] (by decide) rfl 0 rfl rfl rfl) rfl rfl hl.1 rfl (lv_room (Nat.le_of_ble_eq_true rfl)) dL_law_1279 ⟨Nat.le_of_ble_eq_true rfl, Nat.le_of_ble_eq_true rfl⟩) hP hD hS hA [0, 20, 33, 119, 120, 40, 41] [122, 123, 124, 125, 126, 127, 128, 129, 130, 131, 132, 133, 134, 135, 136, 137, 138, 139, 140, 141, 142, 143, 144, 145, 146] (wr := [(m0, .inr (12, [.int 0, .ref (qm 23), .ref (qm 0), .ref (qm 1), .ref (qm 2), .int 0, .ref (qm 3), .int 0, .int 0, .int 0, .int 0, .int 0, .int 0, .int (-1), .ref (qm 4), .ref (qm 5), .ref (qm 6), .ref (qm 7), .ref (qm 8), .ref (qm 9), .ref (qm 10), .ref (qm 11), .ref (qm 12), .int 0, .ref (qm 13), .int 0, .ref (qm 14), .int 0, .ref (qm 15), .ref (qm 16), .ref (qm 17), .int 0, .ref (qm 18), .int 0, .ref (qm 19), .ref (qm 20), .ref (qm 21), .ref (qm 22)])), ((qm 0), .inl (ty 1, 912, .inl (kf 0))), ((qm 1), .inl (ty 3, 3, .inl (kf 0))), ((qm 2), .inl (ty 0, 800, .inl (kf 0))), ((qm 3), .inl (ty 1, 5, .inl (kf 0))), ((qm 4), .inl (ty 1, 304, .inl (kf 0))), ((qm 5), .inl (ty 3, 28, .inl (kf 0))), ((qm 6), .inl (ty 1, 28, .inl (kf 0))), ((qm 7), .inl (ty 1, 256, .inl (kf 0))), ((qm 8), .inl (ty 1, 256, .inl (kf 0))), ((qm 9), .inl (ty 3, 16, .inl (kf 0))), ((qm 10), .inl (ty 1, 28, .inl (kf 0))), ((qm 11), .inl (ty 1, 28, .inl (kf 0))), ((qm 12), .inl (ty 1, 44, .inl (kf 0))), ((qm 13), .inl (ty 1, 2, .inl (kf 0))), ((qm 14), .inl (ty 1, 9, .inl (kf 0))), ((qm 15), .inl (ty 1, 512, .inl (kf 0))), ((qm 16), .inl (ty 1, 512, .inl (kf 0))), ((qm 17), .inl (ty 1, 16, .inl (kf 0))), ((qm 18), .inl (ty 1, 2, .inl (kf 0))), ((qm 19), .inl (ty 1, 4, .inl (upd (upd (upd (upd (kf 0) 0 (-1)) 1 (-1)) 2 (-1)) 3 (-1)))), ((qm 20), .inl (ty 1, 4, .inl (kf 0))), ((qm 21), .inl (ty 2, 240, .inr (.inl (kj 0)))), ((qm 22), .inl (ty 2, 60, .inr (.inl (kj 0)))), ((qm 23), .inl (ty 1, 304, .inl (upd (upd (kf 0) 1 2) 4 (-1))))]) rfl rfl (by decide) (by decide) (fun r u H locs w1 hP hD hS => ?_)
  rcases w1 with ⟨c2, rfl, rfl⟩ | ⟨c3, rfl, rfl⟩
  · have hP : va_P D vwCl [(m0, .inr (12, [.int 0, .ref (qm 23), .ref (qm 0), .ref (qm 1), .ref (qm 2), .int 0, .ref (qm 3), .int 0, .int 0, .int 0, .int 0, .int 0, .int 0, .int (-1), .ref (qm 4), .ref (qm 5), .ref (qm 6), .ref (qm 7), .ref (qm 8), .ref (qm 9), .ref (qm 10), .ref (qm 11), .ref (qm 12), .int 0, .ref (qm 13), .int 0, .ref (qm 14), .int 0, .ref (qm 15), .ref (qm 16), .ref (qm 17), .int 0, .ref (qm 18), .int 0, .ref (qm 19), .ref (qm 20), .ref (qm 21), .ref (qm 22)])), ((qm 0), .inl (ty 1, 912, .inl (kf 0))), ((qm 1), .inl (ty 3, 3, .inl (kf 0))), ((qm 2), .inl (ty 0, 800, .inl (kf 0))), ((qm 3), .inl (ty 1, 5, .inl (kf 0))), ((qm 4), .inl (ty 1, 304, .inl (kf 0))), ((qm 5), .inl (ty 3, 28, .inl (kf 0))), ((qm 6), .inl (ty 1, 28, .inl (kf 0))), ((qm 7), .inl (ty 1, 256, .inl (kf 0))), ((qm 8), .inl (ty 1, 256, .inl (kf 0))), ((qm 9), .inl (ty 3, 16, .inl (kf 0))), ((qm 10), .inl (ty 1, 28, .inl (kf 0))), ((qm 11), .inl (ty 1, 28, .inl (kf 0))), ((qm 12), .inl (ty 1, 44, .inl (kf 0))), ((qm 13), .inl (ty 1, 2, .inl (kf 0))), ((qm 14), .inl (ty 1, 9, .inl (kf 0))), ((qm 15), .inl (ty 1, 512, .inl (kf 0))), ((qm 16), .inl (ty 1, 512, .inl (kf 0))), ((qm 17), .inl (ty 1, 16, .inl (kf 0))), ((qm 18), .inl (ty 1, 2, .inl (kf 0))), ((qm 19), .inl (ty 1, 4, .inl (upd (upd (upd (upd (kf 0) 0 (-1)) 1 (-1)) 2 (-1)) 3 (-1)))), ((qm 20), .inl (ty 1, 4, .inl (kf 0))), ((qm 21), .inl (ty 2, 240, .inr (.inl (kj 0)))), ((qm 22), .inl (ty 2, 60, .inr (.inl (kj 0)))), ((qm 23), .inl (ty 1, 304, .inl (upd (upd (kf 0) 1 2) 4 (-1))))] H := hP
    have hD : va_D (fun q : Nat => s.heap.size ≤ q) [(m0, .inr (12, [.int 0, .ref (qm 23), .ref (qm 0), .ref (qm 1), .ref (qm 2), .int 0, .ref (qm 3), .int 0, .int 0, .int 0, .int 0, .int 0, .int 0, .int (-1), .ref (qm 4), .ref (qm 5), .ref (qm 6), .ref (qm 7), .ref (qm 8), .ref (qm 9), .ref (qm 10), .ref (qm 11), .ref (qm 12), .int 0, .ref (qm 13), .int 0, .ref (qm 14), .int 0, .ref (qm 15), .ref (qm 16), .ref (qm 17), .int 0, .ref (qm 18), .int 0, .ref (qm 19), .ref (qm 20), .ref (qm 21), .ref (qm 22)])), ((qm 0), .inl (ty 1, 912, .inl (kf 0))), ((qm 1), .inl (ty 3, 3, .inl (kf 0))), ((qm 2), .inl (ty 0, 800, .inl (kf 0))), ((qm 3), .inl (ty 1, 5, .inl (kf 0))), ((qm 4), .inl (ty 1, 304, .inl (kf 0))), ((qm 5), .inl (ty 3, 28, .inl (kf 0))), ((qm 6), .inl (ty 1, 28, .inl (kf 0))), ((qm 7), .inl (ty 1, 256, .inl (kf 0))), ((qm 8), .inl (ty 1, 256, .inl (kf 0))), ((qm 9), .inl (ty 3, 16, .inl (kf 0))), ((qm 10), .inl (ty 1, 28, .inl (kf 0))), ((qm 11), .inl (ty 1, 28, .inl (kf 0))), ((qm 12), .inl (ty 1, 44, .inl (kf 0))), ((qm 13), .inl (ty 1, 2, .inl (kf 0))), ((qm 14), .inl (ty 1, 9, .inl (kf 0))), ((qm 15), .inl (ty 1, 512, .inl (kf 0))), ((qm 16), .inl (ty 1, 512, .inl (kf 0))), ((qm 17), .inl (ty 1, 16, .inl (kf 0))), ((qm 18), .inl (ty 1, 2, .inl (kf 0))), ((qm 19), .inl (ty 1, 4, .inl (upd (upd (upd (upd (kf 0) 0 (-1)) 1 (-1)) 2 (-1)) 3 (-1)))), ((qm 20), .inl (ty 1, 4, .inl (kf 0))), ((qm 21), .inl (ty 2, 240, .inr (.inl (kj 0)))), ((qm 22), .inl (ty 2, 60, .inr (.inl (kj 0)))), ((qm 23), .inl (ty 1, 304, .inl (upd (upd (kf 0) 1 2) 4 (-1))))] := hD
    refine lv_aload_n hx hb dL_law_1282 rfl (lv_at hl 1 rfl) ?_
    refine lv_aload_n hx hb dL_law_1283 rfl (lv_at hl 3 rfl) ?_
    refine lv_iload_n hx hb dL_law_1284 rfl (lv_at hl 0 rfl) ?_
    refine lv_iconst (v := 1) hx hb dL_law_1285 (by decide) ?_
    refine lv_iadd hx hb dL_law_1286 ?_
    refine tp_i (v := 1) (by decide) ?_
    refine va_sld hx hb hX hbl hbA hS (by unfold vp_in; decide) dL_law_1287 ?_
    refine tp_i (v := s1) h1 ?_
    refine kc_i (va_runV (As := [.int s1]) (rest := [.int (-2)]) ⟨hx, hb, hml, hown, hB⟩ (c203_X12_afternoon l D ty H.size m0 (qm 23) (qm 7) s1 (.int 0) (.ref (qm 0)) (.ref (qm 1)) (.ref (qm 2)) (.int 0) (.ref (qm 3)) (.int 0) (.int 0) (.int 0) (.int 0) (.int 0) (.int 0) (.int (-1)) (.ref (qm 4)) (.ref (qm 5)) (.ref (qm 6)) (.ref (qm 8)) (.ref (qm 9)) (.ref (qm 10)) (.ref (qm 11)) (.ref (qm 12)) (.int 0) (.ref (qm 13)) (.int 0) (.ref (qm 14)) (.int 0) (.ref (qm 15)) (.ref (qm 16)) (.ref (qm 17)) (.int 0) (.ref (qm 18)) (.int 0) (.ref (qm 19)) (.ref (qm 20)) (.ref (qm 21)) (.ref (qm 22)) (kf 0)) (cwV 1 hB (bw_V mw_848 mw_849 mw_850 mw_211 mw_847) rfl rfl rfl (by decide +kernel) ⟨Nat.le_of_ble_eq_true rfl, Nat.le_of_ble_eq_true rfl⟩) (kp_V hK hP hD [0, 24, 8] (by decide) rfl 0 rfl rfl rfl) rfl rfl hl.1 rfl (lv_room (Nat.le_of_ble_eq_true rfl)) dL_law_1288 ⟨Nat.le_of_ble_eq_true rfl, Nat.le_of_ble_eq_true rfl⟩) hP hD hS hA [0, 24, 8] [] (wr := []) rfl rfl (by decide) (by decide) (fun r u H locs w4 hP hD hS => ?_)
    rcases w4 with ⟨c5, rfl, rfl⟩ | ⟨c6, rfl, rfl⟩
    · exact (ps_33 s1 c2 c5).elim
    · have hP : va_P D vwCl [] H := hP
      have hD : va_D (fun q : Nat => s.heap.size ≤ q) [] := hD
      refine lv_icmp_eq (tgt := 1933) hx hb dL_law_1291 (by decide) (fun _ => ?_) (fun h9 => absurd (by decide) h9)
      refine lv_iinc (v := 6) (lv' := [(3, .int 6), (2, .ref m0), (1, .ref x0), (0, .ref b)]) hx hb dL_law_1933 hl (k := 0) rfl (by decide) (by decide) rfl (fun ls hl => ?_)
      refine lv_goto (tgt := 18) hx hb dL_law_1936 (by decide) ?_
      exact law_end l (Nat.le_refl 6) C0 hS (lv_sub hl [0, 3] rfl)
  · have hP : va_P D vwCl [(m0, .inr (12, [.int 0, .ref (qm 23), .ref (qm 0), .ref (qm 1), .ref (qm 2), .int 0, .ref (qm 3), .int 0, .int 0, .int 0, .int 0, .int 0, .int 0, .int (-1), .ref (qm 4), .ref (qm 5), .ref (qm 6), .ref (qm 7), .ref (qm 8), .ref (qm 9), .ref (qm 10), .ref (qm 11), .ref (qm 12), .int 0, .ref (qm 13), .int 0, .ref (qm 14), .int 0, .ref (qm 15), .ref (qm 16), .ref (qm 17), .int 0, .ref (qm 18), .int 0, .ref (qm 19), .ref (qm 20), .ref (qm 21), .ref (qm 22)])), ((qm 0), .inl (ty 1, 912, .inl (kf 0))), ((qm 1), .inl (ty 3, 3, .inl (kf 0))), ((qm 2), .inl (ty 0, 800, .inl (kf 0))), ((qm 3), .inl (ty 1, 5, .inl (kf 0))), ((qm 4), .inl (ty 1, 304, .inl (kf 0))), ((qm 5), .inl (ty 3, 28, .inl (kf 0))), ((qm 6), .inl (ty 1, 28, .inl (kf 0))), ((qm 7), .inl (ty 1, 256, .inl (kf 0))), ((qm 8), .inl (ty 1, 256, .inl (kf 0))), ((qm 9), .inl (ty 3, 16, .inl (kf 0))), ((qm 10), .inl (ty 1, 28, .inl (kf 0))), ((qm 11), .inl (ty 1, 28, .inl (kf 0))), ((qm 12), .inl (ty 1, 44, .inl (kf 0))), ((qm 13), .inl (ty 1, 2, .inl (kf 0))), ((qm 14), .inl (ty 1, 9, .inl (kf 0))), ((qm 15), .inl (ty 1, 512, .inl (kf 0))), ((qm 16), .inl (ty 1, 512, .inl (kf 0))), ((qm 17), .inl (ty 1, 16, .inl (kf 0))), ((qm 18), .inl (ty 1, 2, .inl (kf 0))), ((qm 19), .inl (ty 1, 4, .inl (upd (upd (upd (upd (kf 0) 0 (-1)) 1 (-1)) 2 (-1)) 3 (-1)))), ((qm 20), .inl (ty 1, 4, .inl (kf 0))), ((qm 21), .inl (ty 2, 240, .inr (.inl (kj 0)))), ((qm 22), .inl (ty 2, 60, .inr (.inl (kj 0)))), ((qm 23), .inl (ty 1, 304, .inl (upd (upd (kf 0) 1 2) 4 (-1))))] H := hP
    have hD : va_D (fun q : Nat => s.heap.size ≤ q) [(m0, .inr (12, [.int 0, .ref (qm 23), .ref (qm 0), .ref (qm 1), .ref (qm 2), .int 0, .ref (qm 3), .int 0, .int 0, .int 0, .int 0, .int 0, .int 0, .int (-1), .ref (qm 4), .ref (qm 5), .ref (qm 6), .ref (qm 7), .ref (qm 8), .ref (qm 9), .ref (qm 10), .ref (qm 11), .ref (qm 12), .int 0, .ref (qm 13), .int 0, .ref (qm 14), .int 0, .ref (qm 15), .ref (qm 16), .ref (qm 17), .int 0, .ref (qm 18), .int 0, .ref (qm 19), .ref (qm 20), .ref (qm 21), .ref (qm 22)])), ((qm 0), .inl (ty 1, 912, .inl (kf 0))), ((qm 1), .inl (ty 3, 3, .inl (kf 0))), ((qm 2), .inl (ty 0, 800, .inl (kf 0))), ((qm 3), .inl (ty 1, 5, .inl (kf 0))), ((qm 4), .inl (ty 1, 304, .inl (kf 0))), ((qm 5), .inl (ty 3, 28, .inl (kf 0))), ((qm 6), .inl (ty 1, 28, .inl (kf 0))), ((qm 7), .inl (ty 1, 256, .inl (kf 0))), ((qm 8), .inl (ty 1, 256, .inl (kf 0))), ((qm 9), .inl (ty 3, 16, .inl (kf 0))), ((qm 10), .inl (ty 1, 28, .inl (kf 0))), ((qm 11), .inl (ty 1, 28, .inl (kf 0))), ((qm 12), .inl (ty 1, 44, .inl (kf 0))), ((qm 13), .inl (ty 1, 2, .inl (kf 0))), ((qm 14), .inl (ty 1, 9, .inl (kf 0))), ((qm 15), .inl (ty 1, 512, .inl (kf 0))), ((qm 16), .inl (ty 1, 512, .inl (kf 0))), ((qm 17), .inl (ty 1, 16, .inl (kf 0))), ((qm 18), .inl (ty 1, 2, .inl (kf 0))), ((qm 19), .inl (ty 1, 4, .inl (upd (upd (upd (upd (kf 0) 0 (-1)) 1 (-1)) 2 (-1)) 3 (-1)))), ((qm 20), .inl (ty 1, 4, .inl (kf 0))), ((qm 21), .inl (ty 2, 240, .inr (.inl (kj 0)))), ((qm 22), .inl (ty 2, 60, .inr (.inl (kj 0)))), ((qm 23), .inl (ty 1, 304, .inl (upd (upd (kf 0) 1 2) 4 (-1))))] := hD
    refine lv_aload_n hx hb dL_law_1282 rfl (lv_at hl 1 rfl) ?_
    refine lv_aload_n hx hb dL_law_1283 rfl (lv_at hl 3 rfl) ?_
    refine lv_iload_n hx hb dL_law_1284 rfl (lv_at hl 0 rfl) ?_
    refine lv_iconst (v := 1) hx hb dL_law_1285 (by decide) ?_
    refine lv_iadd hx hb dL_law_1286 ?_
    refine tp_i (v := 1) (by decide) ?_
    refine va_sld hx hb hX hbl hbA hS (by unfold vp_in; decide) dL_law_1287 ?_
    refine tp_i (v := s1) h1 ?_
    refine kc_i (va_runV (As := [.int s1]) (rest := [.int (-5)]) ⟨hx, hb, hml, hown, hB⟩ (c203_X12_afternoon l D ty H.size m0 (qm 23) (qm 7) s1 (.int 0) (.ref (qm 0)) (.ref (qm 1)) (.ref (qm 2)) (.int 0) (.ref (qm 3)) (.int 0) (.int 0) (.int 0) (.int 0) (.int 0) (.int 0) (.int (-1)) (.ref (qm 4)) (.ref (qm 5)) (.ref (qm 6)) (.ref (qm 8)) (.ref (qm 9)) (.ref (qm 10)) (.ref (qm 11)) (.ref (qm 12)) (.int 0) (.ref (qm 13)) (.int 0) (.ref (qm 14)) (.int 0) (.ref (qm 15)) (.ref (qm 16)) (.ref (qm 17)) (.int 0) (.ref (qm 18)) (.int 0) (.ref (qm 19)) (.ref (qm 20)) (.ref (qm 21)) (.ref (qm 22)) (kf 0)) (cwV 1 hB (bw_V mw_848 mw_849 mw_850 mw_211 mw_847) rfl rfl rfl (by decide +kernel) ⟨Nat.le_of_ble_eq_true rfl, Nat.le_of_ble_eq_true rfl⟩) (kp_V hK hP hD [0, 24, 8] (by decide) rfl 0 rfl rfl rfl) rfl rfl hl.1 rfl (lv_room (Nat.le_of_ble_eq_true rfl)) dL_law_1288 ⟨Nat.le_of_ble_eq_true rfl, Nat.le_of_ble_eq_true rfl⟩) hP hD hS hA [0, 24, 8] [] (wr := []) rfl rfl (by decide) (by decide) (fun r u H locs w7 hP hD hS => ?_)
    rcases w7 with ⟨c8, rfl, rfl⟩ | ⟨c9, rfl, rfl⟩
    · have hP : va_P D vwCl [] H := hP
      have hD : va_D (fun q : Nat => s.heap.size ≤ q) [] := hD
      refine lv_icmp_eq (tgt := 1933) hx hb dL_law_1291 (by decide) (fun _ => ?_) (fun h9 => absurd (by decide) h9)
      refine lv_iinc (v := 6) (lv' := [(3, .int 6), (2, .ref m0), (1, .ref x0), (0, .ref b)]) hx hb dL_law_1933 hl (k := 0) rfl (by decide) (by decide) rfl (fun ls hl => ?_)
      refine lv_goto (tgt := 18) hx hb dL_law_1936 (by decide) ?_
      exact law_end l (Nat.le_refl 6) C0 hS (lv_sub hl [0, 3] rfl)
    · exact (ps_34 s1 c3 c9).elim

set_option maxHeartbeats 4000000 in
set_option maxRecDepth 100000 in
theorem br_36 {p : Program} {e : Env} {s : State} {m : MethodId} {below : List Frame} {meth : Method} {c : Code} (l : Launch) {b : Nat} {xs : Nat → Int32} (C0 : lw_At p s m meth c b 6 xs) (D : va_G) (ty : Nat → ClassId) (hK : kK D ty s) (x0 m0 : Nat) (qx qm : Nat → Nat) {H : Heap} {locs : List Loc} {ls : Array Slot} (hP : va_P D vwCl (lawW ty x0 m0 qx qm) H) (hD : va_D (fun q : Nat => s.heap.size ≤ q) (lawW ty x0 m0 qx qm)) (hS : va_S (fun q : Nat => s.heap.size ≤ q) s.heap H locs) (hl : lv_has ls 4 [(3, .int 0), (2, .ref m0), (1, .ref x0), (0, .ref b)]) :
    W p l e room_1 s m #[Value.ref b] below meth c H locs 200 10000 (lw_Z below #[Value.ref b] s) (F0 m 1296 ls []) := by
  obtain ⟨hx, hb, hr, hml, hown0, hts, hX, hbl, hlocks, hgv⟩ := id C0
  have hown : s.vm.findClass RL = some m.cls := hown0
  have hB : ∀ w ∈ bW, w.before #[Value.ref b] s = true := fun w h => hts w (bW_lw h)
  have hA : ∀ q : Nat, s.heap.size ≤ q → (fun q : Nat => s.heap.size ≤ q) q := fun _ h => h
  have hbA : ¬ (fun q : Nat => s.heap.size ≤ q) b := Nat.not_le.mpr hbl
  obtain ⟨s1, h1⟩ : ∃ y, xs 1 = y := ⟨_, rfl⟩
  obtain ⟨s2, h2⟩ : ∃ y, xs 2 = y := ⟨_, rfl⟩
  obtain ⟨s3, h3⟩ : ∃ y, xs 3 = y := ⟨_, rfl⟩
  obtain ⟨s4, h4⟩ : ∃ y, xs 4 = y := ⟨_, rfl⟩
  obtain ⟨s5, h5⟩ : ∃ y, xs 5 = y := ⟨_, rfl⟩
  refine lv_aload_n hx hb dL_law_1296 rfl (lv_at hl 2 rfl) ?_
  refine lv_aload_n hx hb dL_law_1297 rfl (lv_at hl 3 rfl) ?_
  refine lv_iload_n hx hb dL_law_1298 rfl (lv_at hl 0 rfl) ?_
  refine lv_iconst (v := 1) hx hb dL_law_1299 (by decide) ?_
  refine lv_iadd hx hb dL_law_1300 ?_
  refine tp_i (v := 1) (by decide) ?_
  refine va_sld hx hb hX hbl hbA hS (by unfold vp_in; decide) dL_law_1301 ?_
  refine tp_i (v := s1) h1 ?_
  refine kc_i (va_runV (As := [.int s1]) (rest := []) ⟨hx, hb, hml, hown, hB⟩ (c106_X11_sumBack l D ty H.size x0 (qx 19) (qx 32) (qx 119) (qx 118) (qx 24) s1 (.ref (qx 0)) (.int 0) (.ref (qx 1)) (.ref (qx 35)) (.ref (qx 36)) (.ref (qx 42)) (.ref (qx 44)) (.ref (qx 45)) (.ref (qx 50)) (.int (-1)) (.int (-1)) (.int (-1)) (.int (-1)) (.int 0) (qx 33) (qx 34) (.ref (qx 120)) (.ref (qx 37)) (.ref (qx 38)) (.ref (qx 39)) (.ref (qx 40)) (.ref (qx 41)) (.int 0) (.int 2) (.int 0) (.int (-1)) (.int 0) (.int 0) (.ref (qx 20)) (.ref (qx 21)) (.ref (qx 22)) (.ref (qx 23)) (.int 0) (.int 0) (.ref (qx 28)) (.ref (qx 117)) (.ref (qx 31)) (.ref (qx 116)) (.int 0) (.ref (qx 25)) (.ref (qx 26)) (.ref (qx 27))) (cwV 1 hB (bw_V mw_852 mw_853 mw_854 mw_216 mw_851) rfl rfl rfl (by decide +kernel) ⟨Nat.le_of_ble_eq_true rfl, Nat.le_of_ble_eq_true rfl⟩) (kp_V hK hP hD [0, 20, 33, 120, 119, 25] (by decide) rfl 0 rfl rfl rfl) rfl rfl hl.1 rfl (lv_room (Nat.le_of_ble_eq_true rfl)) dL_law_1302 ⟨Nat.le_of_ble_eq_true rfl, Nat.le_of_ble_eq_true rfl⟩) hP hD hS hA [0, 20, 33, 120, 119, 25] [122, 123, 124, 125, 126, 127, 128, 129, 130, 131, 132, 133, 134, 135, 136, 137, 138, 139, 140, 141, 142, 143, 144, 145, 146] (wr := [(m0, .inr (12, [.int 0, .ref (qm 23), .ref (qm 0), .ref (qm 1), .ref (qm 2), .int 0, .ref (qm 3), .int 0, .int 0, .int 0, .int 0, .int 0, .int 0, .int (-1), .ref (qm 4), .ref (qm 5), .ref (qm 6), .ref (qm 7), .ref (qm 8), .ref (qm 9), .ref (qm 10), .ref (qm 11), .ref (qm 12), .int 0, .ref (qm 13), .int 0, .ref (qm 14), .int 0, .ref (qm 15), .ref (qm 16), .ref (qm 17), .int 0, .ref (qm 18), .int 0, .ref (qm 19), .ref (qm 20), .ref (qm 21), .ref (qm 22)])), ((qm 0), .inl (ty 1, 912, .inl (kf 0))), ((qm 1), .inl (ty 3, 3, .inl (kf 0))), ((qm 2), .inl (ty 0, 800, .inl (kf 0))), ((qm 3), .inl (ty 1, 5, .inl (kf 0))), ((qm 4), .inl (ty 1, 304, .inl (kf 0))), ((qm 5), .inl (ty 3, 28, .inl (kf 0))), ((qm 6), .inl (ty 1, 28, .inl (kf 0))), ((qm 7), .inl (ty 1, 256, .inl (kf 0))), ((qm 8), .inl (ty 1, 256, .inl (kf 0))), ((qm 9), .inl (ty 3, 16, .inl (kf 0))), ((qm 10), .inl (ty 1, 28, .inl (kf 0))), ((qm 11), .inl (ty 1, 28, .inl (kf 0))), ((qm 12), .inl (ty 1, 44, .inl (kf 0))), ((qm 13), .inl (ty 1, 2, .inl (kf 0))), ((qm 14), .inl (ty 1, 9, .inl (kf 0))), ((qm 15), .inl (ty 1, 512, .inl (kf 0))), ((qm 16), .inl (ty 1, 512, .inl (kf 0))), ((qm 17), .inl (ty 1, 16, .inl (kf 0))), ((qm 18), .inl (ty 1, 2, .inl (kf 0))), ((qm 19), .inl (ty 1, 4, .inl (upd (upd (upd (upd (kf 0) 0 (-1)) 1 (-1)) 2 (-1)) 3 (-1)))), ((qm 20), .inl (ty 1, 4, .inl (kf 0))), ((qm 21), .inl (ty 2, 240, .inr (.inl (kj 0)))), ((qm 22), .inl (ty 2, 60, .inr (.inl (kj 0)))), ((qm 23), .inl (ty 1, 304, .inl (upd (upd (kf 0) 1 2) 4 (-1))))]) rfl rfl (by decide) (by decide) (fun r u H locs w1 hP hD hS => ?_)
  rcases w1 with ⟨c2, rfl, rfl⟩ | ⟨c3, rfl, rfl⟩
  · have hP : va_P D vwCl [(m0, .inr (12, [.int 0, .ref (qm 23), .ref (qm 0), .ref (qm 1), .ref (qm 2), .int 0, .ref (qm 3), .int 0, .int 0, .int 0, .int 0, .int 0, .int 0, .int (-1), .ref (qm 4), .ref (qm 5), .ref (qm 6), .ref (qm 7), .ref (qm 8), .ref (qm 9), .ref (qm 10), .ref (qm 11), .ref (qm 12), .int 0, .ref (qm 13), .int 0, .ref (qm 14), .int 0, .ref (qm 15), .ref (qm 16), .ref (qm 17), .int 0, .ref (qm 18), .int 0, .ref (qm 19), .ref (qm 20), .ref (qm 21), .ref (qm 22)])), ((qm 0), .inl (ty 1, 912, .inl (kf 0))), ((qm 1), .inl (ty 3, 3, .inl (kf 0))), ((qm 2), .inl (ty 0, 800, .inl (kf 0))), ((qm 3), .inl (ty 1, 5, .inl (kf 0))), ((qm 4), .inl (ty 1, 304, .inl (kf 0))), ((qm 5), .inl (ty 3, 28, .inl (kf 0))), ((qm 6), .inl (ty 1, 28, .inl (kf 0))), ((qm 7), .inl (ty 1, 256, .inl (kf 0))), ((qm 8), .inl (ty 1, 256, .inl (kf 0))), ((qm 9), .inl (ty 3, 16, .inl (kf 0))), ((qm 10), .inl (ty 1, 28, .inl (kf 0))), ((qm 11), .inl (ty 1, 28, .inl (kf 0))), ((qm 12), .inl (ty 1, 44, .inl (kf 0))), ((qm 13), .inl (ty 1, 2, .inl (kf 0))), ((qm 14), .inl (ty 1, 9, .inl (kf 0))), ((qm 15), .inl (ty 1, 512, .inl (kf 0))), ((qm 16), .inl (ty 1, 512, .inl (kf 0))), ((qm 17), .inl (ty 1, 16, .inl (kf 0))), ((qm 18), .inl (ty 1, 2, .inl (kf 0))), ((qm 19), .inl (ty 1, 4, .inl (upd (upd (upd (upd (kf 0) 0 (-1)) 1 (-1)) 2 (-1)) 3 (-1)))), ((qm 20), .inl (ty 1, 4, .inl (kf 0))), ((qm 21), .inl (ty 2, 240, .inr (.inl (kj 0)))), ((qm 22), .inl (ty 2, 60, .inr (.inl (kj 0)))), ((qm 23), .inl (ty 1, 304, .inl (upd (upd (kf 0) 1 2) 4 (-1))))] H := hP
    have hD : va_D (fun q : Nat => s.heap.size ≤ q) [(m0, .inr (12, [.int 0, .ref (qm 23), .ref (qm 0), .ref (qm 1), .ref (qm 2), .int 0, .ref (qm 3), .int 0, .int 0, .int 0, .int 0, .int 0, .int 0, .int (-1), .ref (qm 4), .ref (qm 5), .ref (qm 6), .ref (qm 7), .ref (qm 8), .ref (qm 9), .ref (qm 10), .ref (qm 11), .ref (qm 12), .int 0, .ref (qm 13), .int 0, .ref (qm 14), .int 0, .ref (qm 15), .ref (qm 16), .ref (qm 17), .int 0, .ref (qm 18), .int 0, .ref (qm 19), .ref (qm 20), .ref (qm 21), .ref (qm 22)])), ((qm 0), .inl (ty 1, 912, .inl (kf 0))), ((qm 1), .inl (ty 3, 3, .inl (kf 0))), ((qm 2), .inl (ty 0, 800, .inl (kf 0))), ((qm 3), .inl (ty 1, 5, .inl (kf 0))), ((qm 4), .inl (ty 1, 304, .inl (kf 0))), ((qm 5), .inl (ty 3, 28, .inl (kf 0))), ((qm 6), .inl (ty 1, 28, .inl (kf 0))), ((qm 7), .inl (ty 1, 256, .inl (kf 0))), ((qm 8), .inl (ty 1, 256, .inl (kf 0))), ((qm 9), .inl (ty 3, 16, .inl (kf 0))), ((qm 10), .inl (ty 1, 28, .inl (kf 0))), ((qm 11), .inl (ty 1, 28, .inl (kf 0))), ((qm 12), .inl (ty 1, 44, .inl (kf 0))), ((qm 13), .inl (ty 1, 2, .inl (kf 0))), ((qm 14), .inl (ty 1, 9, .inl (kf 0))), ((qm 15), .inl (ty 1, 512, .inl (kf 0))), ((qm 16), .inl (ty 1, 512, .inl (kf 0))), ((qm 17), .inl (ty 1, 16, .inl (kf 0))), ((qm 18), .inl (ty 1, 2, .inl (kf 0))), ((qm 19), .inl (ty 1, 4, .inl (upd (upd (upd (upd (kf 0) 0 (-1)) 1 (-1)) 2 (-1)) 3 (-1)))), ((qm 20), .inl (ty 1, 4, .inl (kf 0))), ((qm 21), .inl (ty 2, 240, .inr (.inl (kj 0)))), ((qm 22), .inl (ty 2, 60, .inr (.inl (kj 0)))), ((qm 23), .inl (ty 1, 304, .inl (upd (upd (kf 0) 1 2) 4 (-1))))] := hD
    refine lv_aload_n hx hb dL_law_1305 rfl (lv_at hl 1 rfl) ?_
    refine lv_aload_n hx hb dL_law_1306 rfl (lv_at hl 3 rfl) ?_
    refine lv_iload_n hx hb dL_law_1307 rfl (lv_at hl 0 rfl) ?_
    refine lv_iconst (v := 1) hx hb dL_law_1308 (by decide) ?_
    refine lv_iadd hx hb dL_law_1309 ?_
    refine tp_i (v := 1) (by decide) ?_
    refine va_sld hx hb hX hbl hbA hS (by unfold vp_in; decide) dL_law_1310 ?_
    refine tp_i (v := s1) h1 ?_
    refine kc_i (va_runV (As := [.int s1]) (rest := [.int (-2)]) ⟨hx, hb, hml, hown, hB⟩ (c205_X12_sumBack l D ty H.size m0 (qm 23) (qm 8) (qm 7) s1 (.int 0) (.ref (qm 0)) (.ref (qm 1)) (.ref (qm 2)) (.int 0) (.ref (qm 3)) (.int 0) (.int 0) (.int 0) (.int 0) (.int 0) (.int 0) (.int (-1)) (.ref (qm 4)) (.ref (qm 5)) (.ref (qm 6)) (.ref (qm 9)) (.ref (qm 10)) (.ref (qm 11)) (.ref (qm 12)) (.int 0) (.ref (qm 13)) (.int 0) (.ref (qm 14)) (.int 0) (.ref (qm 15)) (.ref (qm 16)) (.ref (qm 17)) (.int 0) (.ref (qm 18)) (.int 0) (.ref (qm 19)) (.ref (qm 20)) (.ref (qm 21)) (.ref (qm 22)) (kf 0) (kf 0)) (cwV 1 hB (bw_V mw_856 mw_857 mw_858 mw_211 mw_855) rfl rfl rfl (by decide +kernel) ⟨Nat.le_of_ble_eq_true rfl, Nat.le_of_ble_eq_true rfl⟩) (kp_V hK hP hD [0, 24, 9, 8] (by decide) rfl 0 rfl rfl rfl) rfl rfl hl.1 rfl (lv_room (Nat.le_of_ble_eq_true rfl)) dL_law_1311 ⟨Nat.le_of_ble_eq_true rfl, Nat.le_of_ble_eq_true rfl⟩) hP hD hS hA [0, 24, 9, 8] [] (wr := []) rfl rfl (by decide) (by decide) (fun r u H locs w4 hP hD hS => ?_)
    rcases w4 with ⟨c5, rfl, rfl⟩ | ⟨c6, rfl, rfl⟩
    · exact (ps_15 s1 c2 c5).elim
    · have hP : va_P D vwCl [] H := hP
      have hD : va_D (fun q : Nat => s.heap.size ≤ q) [] := hD
      refine lv_icmp_eq (tgt := 1933) hx hb dL_law_1314 (by decide) (fun _ => ?_) (fun h9 => absurd (by decide) h9)
      refine lv_iinc (v := 6) (lv' := [(3, .int 6), (2, .ref m0), (1, .ref x0), (0, .ref b)]) hx hb dL_law_1933 hl (k := 0) rfl (by decide) (by decide) rfl (fun ls hl => ?_)
      refine lv_goto (tgt := 18) hx hb dL_law_1936 (by decide) ?_
      exact law_end l (Nat.le_refl 6) C0 hS (lv_sub hl [0, 3] rfl)
  · have hP : va_P D vwCl [(m0, .inr (12, [.int 0, .ref (qm 23), .ref (qm 0), .ref (qm 1), .ref (qm 2), .int 0, .ref (qm 3), .int 0, .int 0, .int 0, .int 0, .int 0, .int 0, .int (-1), .ref (qm 4), .ref (qm 5), .ref (qm 6), .ref (qm 7), .ref (qm 8), .ref (qm 9), .ref (qm 10), .ref (qm 11), .ref (qm 12), .int 0, .ref (qm 13), .int 0, .ref (qm 14), .int 0, .ref (qm 15), .ref (qm 16), .ref (qm 17), .int 0, .ref (qm 18), .int 0, .ref (qm 19), .ref (qm 20), .ref (qm 21), .ref (qm 22)])), ((qm 0), .inl (ty 1, 912, .inl (kf 0))), ((qm 1), .inl (ty 3, 3, .inl (kf 0))), ((qm 2), .inl (ty 0, 800, .inl (kf 0))), ((qm 3), .inl (ty 1, 5, .inl (kf 0))), ((qm 4), .inl (ty 1, 304, .inl (kf 0))), ((qm 5), .inl (ty 3, 28, .inl (kf 0))), ((qm 6), .inl (ty 1, 28, .inl (kf 0))), ((qm 7), .inl (ty 1, 256, .inl (kf 0))), ((qm 8), .inl (ty 1, 256, .inl (kf 0))), ((qm 9), .inl (ty 3, 16, .inl (kf 0))), ((qm 10), .inl (ty 1, 28, .inl (kf 0))), ((qm 11), .inl (ty 1, 28, .inl (kf 0))), ((qm 12), .inl (ty 1, 44, .inl (kf 0))), ((qm 13), .inl (ty 1, 2, .inl (kf 0))), ((qm 14), .inl (ty 1, 9, .inl (kf 0))), ((qm 15), .inl (ty 1, 512, .inl (kf 0))), ((qm 16), .inl (ty 1, 512, .inl (kf 0))), ((qm 17), .inl (ty 1, 16, .inl (kf 0))), ((qm 18), .inl (ty 1, 2, .inl (kf 0))), ((qm 19), .inl (ty 1, 4, .inl (upd (upd (upd (upd (kf 0) 0 (-1)) 1 (-1)) 2 (-1)) 3 (-1)))), ((qm 20), .inl (ty 1, 4, .inl (kf 0))), ((qm 21), .inl (ty 2, 240, .inr (.inl (kj 0)))), ((qm 22), .inl (ty 2, 60, .inr (.inl (kj 0)))), ((qm 23), .inl (ty 1, 304, .inl (upd (upd (kf 0) 1 2) 4 (-1))))] H := hP
    have hD : va_D (fun q : Nat => s.heap.size ≤ q) [(m0, .inr (12, [.int 0, .ref (qm 23), .ref (qm 0), .ref (qm 1), .ref (qm 2), .int 0, .ref (qm 3), .int 0, .int 0, .int 0, .int 0, .int 0, .int 0, .int (-1), .ref (qm 4), .ref (qm 5), .ref (qm 6), .ref (qm 7), .ref (qm 8), .ref (qm 9), .ref (qm 10), .ref (qm 11), .ref (qm 12), .int 0, .ref (qm 13), .int 0, .ref (qm 14), .int 0, .ref (qm 15), .ref (qm 16), .ref (qm 17), .int 0, .ref (qm 18), .int 0, .ref (qm 19), .ref (qm 20), .ref (qm 21), .ref (qm 22)])), ((qm 0), .inl (ty 1, 912, .inl (kf 0))), ((qm 1), .inl (ty 3, 3, .inl (kf 0))), ((qm 2), .inl (ty 0, 800, .inl (kf 0))), ((qm 3), .inl (ty 1, 5, .inl (kf 0))), ((qm 4), .inl (ty 1, 304, .inl (kf 0))), ((qm 5), .inl (ty 3, 28, .inl (kf 0))), ((qm 6), .inl (ty 1, 28, .inl (kf 0))), ((qm 7), .inl (ty 1, 256, .inl (kf 0))), ((qm 8), .inl (ty 1, 256, .inl (kf 0))), ((qm 9), .inl (ty 3, 16, .inl (kf 0))), ((qm 10), .inl (ty 1, 28, .inl (kf 0))), ((qm 11), .inl (ty 1, 28, .inl (kf 0))), ((qm 12), .inl (ty 1, 44, .inl (kf 0))), ((qm 13), .inl (ty 1, 2, .inl (kf 0))), ((qm 14), .inl (ty 1, 9, .inl (kf 0))), ((qm 15), .inl (ty 1, 512, .inl (kf 0))), ((qm 16), .inl (ty 1, 512, .inl (kf 0))), ((qm 17), .inl (ty 1, 16, .inl (kf 0))), ((qm 18), .inl (ty 1, 2, .inl (kf 0))), ((qm 19), .inl (ty 1, 4, .inl (upd (upd (upd (upd (kf 0) 0 (-1)) 1 (-1)) 2 (-1)) 3 (-1)))), ((qm 20), .inl (ty 1, 4, .inl (kf 0))), ((qm 21), .inl (ty 2, 240, .inr (.inl (kj 0)))), ((qm 22), .inl (ty 2, 60, .inr (.inl (kj 0)))), ((qm 23), .inl (ty 1, 304, .inl (upd (upd (kf 0) 1 2) 4 (-1))))] := hD
    refine lv_aload_n hx hb dL_law_1305 rfl (lv_at hl 1 rfl) ?_
    refine lv_aload_n hx hb dL_law_1306 rfl (lv_at hl 3 rfl) ?_
    refine lv_iload_n hx hb dL_law_1307 rfl (lv_at hl 0 rfl) ?_
    refine lv_iconst (v := 1) hx hb dL_law_1308 (by decide) ?_
    refine lv_iadd hx hb dL_law_1309 ?_
    refine tp_i (v := 1) (by decide) ?_
    refine va_sld hx hb hX hbl hbA hS (by unfold vp_in; decide) dL_law_1310 ?_
    refine tp_i (v := s1) h1 ?_
    refine kc_i (va_runV (As := [.int s1]) (rest := [.int 0]) ⟨hx, hb, hml, hown, hB⟩ (c205_X12_sumBack l D ty H.size m0 (qm 23) (qm 8) (qm 7) s1 (.int 0) (.ref (qm 0)) (.ref (qm 1)) (.ref (qm 2)) (.int 0) (.ref (qm 3)) (.int 0) (.int 0) (.int 0) (.int 0) (.int 0) (.int 0) (.int (-1)) (.ref (qm 4)) (.ref (qm 5)) (.ref (qm 6)) (.ref (qm 9)) (.ref (qm 10)) (.ref (qm 11)) (.ref (qm 12)) (.int 0) (.ref (qm 13)) (.int 0) (.ref (qm 14)) (.int 0) (.ref (qm 15)) (.ref (qm 16)) (.ref (qm 17)) (.int 0) (.ref (qm 18)) (.int 0) (.ref (qm 19)) (.ref (qm 20)) (.ref (qm 21)) (.ref (qm 22)) (kf 0) (kf 0)) (cwV 1 hB (bw_V mw_856 mw_857 mw_858 mw_211 mw_855) rfl rfl rfl (by decide +kernel) ⟨Nat.le_of_ble_eq_true rfl, Nat.le_of_ble_eq_true rfl⟩) (kp_V hK hP hD [0, 24, 9, 8] (by decide) rfl 0 rfl rfl rfl) rfl rfl hl.1 rfl (lv_room (Nat.le_of_ble_eq_true rfl)) dL_law_1311 ⟨Nat.le_of_ble_eq_true rfl, Nat.le_of_ble_eq_true rfl⟩) hP hD hS hA [0, 24, 9, 8] [] (wr := []) rfl rfl (by decide) (by decide) (fun r u H locs w7 hP hD hS => ?_)
    rcases w7 with ⟨c8, rfl, rfl⟩ | ⟨c9, rfl, rfl⟩
    · have hP : va_P D vwCl [] H := hP
      have hD : va_D (fun q : Nat => s.heap.size ≤ q) [] := hD
      refine lv_icmp_eq (tgt := 1933) hx hb dL_law_1314 (by decide) (fun _ => ?_) (fun h9 => absurd (by decide) h9)
      refine lv_iinc (v := 6) (lv' := [(3, .int 6), (2, .ref m0), (1, .ref x0), (0, .ref b)]) hx hb dL_law_1933 hl (k := 0) rfl (by decide) (by decide) rfl (fun ls hl => ?_)
      refine lv_goto (tgt := 18) hx hb dL_law_1936 (by decide) ?_
      exact law_end l (Nat.le_refl 6) C0 hS (lv_sub hl [0, 3] rfl)
    · exact (ps_17 s1 c3 c9).elim

set_option maxHeartbeats 4000000 in
set_option maxRecDepth 100000 in
theorem br_37 {p : Program} {e : Env} {s : State} {m : MethodId} {below : List Frame} {meth : Method} {c : Code} (l : Launch) {b : Nat} {xs : Nat → Int32} (C0 : lw_At p s m meth c b 6 xs) (D : va_G) (ty : Nat → ClassId) (hK : kK D ty s) (x0 m0 : Nat) (qx qm : Nat → Nat) {H : Heap} {locs : List Loc} {ls : Array Slot} (hP : va_P D vwCl (lawW ty x0 m0 qx qm) H) (hD : va_D (fun q : Nat => s.heap.size ≤ q) (lawW ty x0 m0 qx qm)) (hS : va_S (fun q : Nat => s.heap.size ≤ q) s.heap H locs) (hl : lv_has ls 4 [(3, .int 0), (2, .ref m0), (1, .ref x0), (0, .ref b)]) :
    W p l e room_1 s m #[Value.ref b] below meth c H locs 200 10000 (lw_Z below #[Value.ref b] s) (F0 m 1319 ls []) := by
  obtain ⟨hx, hb, hr, hml, hown0, hts, hX, hbl, hlocks, hgv⟩ := id C0
  have hown : s.vm.findClass RL = some m.cls := hown0
  have hB : ∀ w ∈ bW, w.before #[Value.ref b] s = true := fun w h => hts w (bW_lw h)
  have hA : ∀ q : Nat, s.heap.size ≤ q → (fun q : Nat => s.heap.size ≤ q) q := fun _ h => h
  have hbA : ¬ (fun q : Nat => s.heap.size ≤ q) b := Nat.not_le.mpr hbl
  obtain ⟨s1, h1⟩ : ∃ y, xs 1 = y := ⟨_, rfl⟩
  obtain ⟨s2, h2⟩ : ∃ y, xs 2 = y := ⟨_, rfl⟩
  obtain ⟨s3, h3⟩ : ∃ y, xs 3 = y := ⟨_, rfl⟩
  obtain ⟨s4, h4⟩ : ∃ y, xs 4 = y := ⟨_, rfl⟩
  obtain ⟨s5, h5⟩ : ∃ y, xs 5 = y := ⟨_, rfl⟩
  refine lv_aload_n hx hb dL_law_1319 rfl (lv_at hl 2 rfl) ?_
  refine lv_aload_n hx hb dL_law_1320 rfl (lv_at hl 3 rfl) ?_
  refine lv_iload_n hx hb dL_law_1321 rfl (lv_at hl 0 rfl) ?_
  refine lv_iconst (v := 1) hx hb dL_law_1322 (by decide) ?_
  refine lv_iadd hx hb dL_law_1323 ?_
  refine tp_i (v := 1) (by decide) ?_
  refine va_sld hx hb hX hbl hbA hS (by unfold vp_in; decide) dL_law_1324 ?_
  refine tp_i (v := s1) h1 ?_
  refine lv_aload_n hx hb dL_law_1325 rfl (lv_at hl 3 rfl) ?_
  refine lv_iload_n hx hb dL_law_1326 rfl (lv_at hl 0 rfl) ?_
  refine lv_iconst (v := 2) hx hb dL_law_1327 (by decide) ?_
  refine lv_iadd hx hb dL_law_1328 ?_
  refine tp_i (v := 2) (by decide) ?_
  refine va_sld hx hb hX hbl hbA hS (by unfold vp_in; decide) dL_law_1329 ?_
  refine tp_i (v := s2) h2 ?_
  refine lv_aload_n hx hb dL_law_1330 rfl (lv_at hl 3 rfl) ?_
  refine lv_iload_n hx hb dL_law_1331 rfl (lv_at hl 0 rfl) ?_
  refine lv_iconst (v := 3) hx hb dL_law_1332 (by decide) ?_
  refine lv_iadd hx hb dL_law_1333 ?_
  refine tp_i (v := 3) (by decide) ?_
  refine va_sld hx hb hX hbl hbA hS (by unfold vp_in; decide) dL_law_1334 ?_
  refine tp_i (v := s3) h3 ?_
  refine kc_i (va_runV (As := [.int s1, .int s2, .int s3]) (rest := []) ⟨hx, hb, hml, hown, hB⟩ (c108_X11_walk l D ty H.size x0 (qx 19) (qx 118) (qx 32) (qx 119) (qx 117) s1 s2 s3 (.ref (qx 0)) (.int 0) (.ref (qx 1)) (.ref (qx 35)) (.ref (qx 36)) (.ref (qx 42)) (.ref (qx 44)) (.ref (qx 45)) (.ref (qx 50)) (.int (-1)) (.int (-1)) (.int (-1)) (.int (-1)) (.int 0) (.int 0) (.int 0) (.int (-1)) (.int 0) (.int 0) (.ref (qx 20)) (.ref (qx 21)) (.ref (qx 22)) (.ref (qx 23)) (.int 0) (.int 0) (.ref (qx 24)) (.ref (qx 28)) (.ref (qx 31)) (.ref (qx 116)) (.int 0) (qx 33) (qx 34) (.ref (qx 120)) (.ref (qx 37)) (.ref (qx 38)) (.ref (qx 39)) (.ref (qx 40)) (.ref (qx 41))) (cwV 3 hB (bw_V mw_860 mw_861 mw_862 mw_216 mw_859) rfl rfl rfl (by decide +kernel) ⟨Nat.le_of_ble_eq_true rfl, Nat.le_of_ble_eq_true rfl⟩) (kp_V hK hP hD [0, 20, 119, 33, 120, 118] (by decide) rfl 0 rfl rfl rfl) rfl rfl hl.1 rfl (lv_room (Nat.le_of_ble_eq_true rfl)) dL_law_1335 ⟨Nat.le_of_ble_eq_true rfl, Nat.le_of_ble_eq_true rfl⟩) hP hD hS hA [0, 20, 119, 33, 120, 118] [122, 123, 124, 125, 126, 127, 128, 129, 130, 131, 132, 133, 134, 135, 136, 137, 138, 139, 140, 141, 142, 143, 144, 145, 146] (wr := [(m0, .inr (12, [.int 0, .ref (qm 23), .ref (qm 0), .ref (qm 1), .ref (qm 2), .int 0, .ref (qm 3), .int 0, .int 0, .int 0, .int 0, .int 0, .int 0, .int (-1), .ref (qm 4), .ref (qm 5), .ref (qm 6), .ref (qm 7), .ref (qm 8), .ref (qm 9), .ref (qm 10), .ref (qm 11), .ref (qm 12), .int 0, .ref (qm 13), .int 0, .ref (qm 14), .int 0, .ref (qm 15), .ref (qm 16), .ref (qm 17), .int 0, .ref (qm 18), .int 0, .ref (qm 19), .ref (qm 20), .ref (qm 21), .ref (qm 22)])), ((qm 0), .inl (ty 1, 912, .inl (kf 0))), ((qm 1), .inl (ty 3, 3, .inl (kf 0))), ((qm 2), .inl (ty 0, 800, .inl (kf 0))), ((qm 3), .inl (ty 1, 5, .inl (kf 0))), ((qm 4), .inl (ty 1, 304, .inl (kf 0))), ((qm 5), .inl (ty 3, 28, .inl (kf 0))), ((qm 6), .inl (ty 1, 28, .inl (kf 0))), ((qm 7), .inl (ty 1, 256, .inl (kf 0))), ((qm 8), .inl (ty 1, 256, .inl (kf 0))), ((qm 9), .inl (ty 3, 16, .inl (kf 0))), ((qm 10), .inl (ty 1, 28, .inl (kf 0))), ((qm 11), .inl (ty 1, 28, .inl (kf 0))), ((qm 12), .inl (ty 1, 44, .inl (kf 0))), ((qm 13), .inl (ty 1, 2, .inl (kf 0))), ((qm 14), .inl (ty 1, 9, .inl (kf 0))), ((qm 15), .inl (ty 1, 512, .inl (kf 0))), ((qm 16), .inl (ty 1, 512, .inl (kf 0))), ((qm 17), .inl (ty 1, 16, .inl (kf 0))), ((qm 18), .inl (ty 1, 2, .inl (kf 0))), ((qm 19), .inl (ty 1, 4, .inl (upd (upd (upd (upd (kf 0) 0 (-1)) 1 (-1)) 2 (-1)) 3 (-1)))), ((qm 20), .inl (ty 1, 4, .inl (kf 0))), ((qm 21), .inl (ty 2, 240, .inr (.inl (kj 0)))), ((qm 22), .inl (ty 2, 60, .inr (.inl (kj 0)))), ((qm 23), .inl (ty 1, 304, .inl (upd (upd (kf 0) 1 2) 4 (-1))))]) rfl rfl (by decide) (by decide) (fun r u H locs w1 hP hD hS => ?_)
  rcases w1 with ⟨c2, rfl, rfl⟩ | ⟨c3, rfl, rfl⟩ | ⟨c4, rfl, rfl⟩ | ⟨c5, rfl, rfl⟩
  · have hP : va_P D vwCl [(m0, .inr (12, [.int 0, .ref (qm 23), .ref (qm 0), .ref (qm 1), .ref (qm 2), .int 0, .ref (qm 3), .int 0, .int 0, .int 0, .int 0, .int 0, .int 0, .int (-1), .ref (qm 4), .ref (qm 5), .ref (qm 6), .ref (qm 7), .ref (qm 8), .ref (qm 9), .ref (qm 10), .ref (qm 11), .ref (qm 12), .int 0, .ref (qm 13), .int 0, .ref (qm 14), .int 0, .ref (qm 15), .ref (qm 16), .ref (qm 17), .int 0, .ref (qm 18), .int 0, .ref (qm 19), .ref (qm 20), .ref (qm 21), .ref (qm 22)])), ((qm 0), .inl (ty 1, 912, .inl (kf 0))), ((qm 1), .inl (ty 3, 3, .inl (kf 0))), ((qm 2), .inl (ty 0, 800, .inl (kf 0))), ((qm 3), .inl (ty 1, 5, .inl (kf 0))), ((qm 4), .inl (ty 1, 304, .inl (kf 0))), ((qm 5), .inl (ty 3, 28, .inl (kf 0))), ((qm 6), .inl (ty 1, 28, .inl (kf 0))), ((qm 7), .inl (ty 1, 256, .inl (kf 0))), ((qm 8), .inl (ty 1, 256, .inl (kf 0))), ((qm 9), .inl (ty 3, 16, .inl (kf 0))), ((qm 10), .inl (ty 1, 28, .inl (kf 0))), ((qm 11), .inl (ty 1, 28, .inl (kf 0))), ((qm 12), .inl (ty 1, 44, .inl (kf 0))), ((qm 13), .inl (ty 1, 2, .inl (kf 0))), ((qm 14), .inl (ty 1, 9, .inl (kf 0))), ((qm 15), .inl (ty 1, 512, .inl (kf 0))), ((qm 16), .inl (ty 1, 512, .inl (kf 0))), ((qm 17), .inl (ty 1, 16, .inl (kf 0))), ((qm 18), .inl (ty 1, 2, .inl (kf 0))), ((qm 19), .inl (ty 1, 4, .inl (upd (upd (upd (upd (kf 0) 0 (-1)) 1 (-1)) 2 (-1)) 3 (-1)))), ((qm 20), .inl (ty 1, 4, .inl (kf 0))), ((qm 21), .inl (ty 2, 240, .inr (.inl (kj 0)))), ((qm 22), .inl (ty 2, 60, .inr (.inl (kj 0)))), ((qm 23), .inl (ty 1, 304, .inl (upd (upd (kf 0) 1 2) 4 (-1))))] H := hP
    have hD : va_D (fun q : Nat => s.heap.size ≤ q) [(m0, .inr (12, [.int 0, .ref (qm 23), .ref (qm 0), .ref (qm 1), .ref (qm 2), .int 0, .ref (qm 3), .int 0, .int 0, .int 0, .int 0, .int 0, .int 0, .int (-1), .ref (qm 4), .ref (qm 5), .ref (qm 6), .ref (qm 7), .ref (qm 8), .ref (qm 9), .ref (qm 10), .ref (qm 11), .ref (qm 12), .int 0, .ref (qm 13), .int 0, .ref (qm 14), .int 0, .ref (qm 15), .ref (qm 16), .ref (qm 17), .int 0, .ref (qm 18), .int 0, .ref (qm 19), .ref (qm 20), .ref (qm 21), .ref (qm 22)])), ((qm 0), .inl (ty 1, 912, .inl (kf 0))), ((qm 1), .inl (ty 3, 3, .inl (kf 0))), ((qm 2), .inl (ty 0, 800, .inl (kf 0))), ((qm 3), .inl (ty 1, 5, .inl (kf 0))), ((qm 4), .inl (ty 1, 304, .inl (kf 0))), ((qm 5), .inl (ty 3, 28, .inl (kf 0))), ((qm 6), .inl (ty 1, 28, .inl (kf 0))), ((qm 7), .inl (ty 1, 256, .inl (kf 0))), ((qm 8), .inl (ty 1, 256, .inl (kf 0))), ((qm 9), .inl (ty 3, 16, .inl (kf 0))), ((qm 10), .inl (ty 1, 28, .inl (kf 0))), ((qm 11), .inl (ty 1, 28, .inl (kf 0))), ((qm 12), .inl (ty 1, 44, .inl (kf 0))), ((qm 13), .inl (ty 1, 2, .inl (kf 0))), ((qm 14), .inl (ty 1, 9, .inl (kf 0))), ((qm 15), .inl (ty 1, 512, .inl (kf 0))), ((qm 16), .inl (ty 1, 512, .inl (kf 0))), ((qm 17), .inl (ty 1, 16, .inl (kf 0))), ((qm 18), .inl (ty 1, 2, .inl (kf 0))), ((qm 19), .inl (ty 1, 4, .inl (upd (upd (upd (upd (kf 0) 0 (-1)) 1 (-1)) 2 (-1)) 3 (-1)))), ((qm 20), .inl (ty 1, 4, .inl (kf 0))), ((qm 21), .inl (ty 2, 240, .inr (.inl (kj 0)))), ((qm 22), .inl (ty 2, 60, .inr (.inl (kj 0)))), ((qm 23), .inl (ty 1, 304, .inl (upd (upd (kf 0) 1 2) 4 (-1))))] := hD
    refine lv_aload_n hx hb dL_law_1338 rfl (lv_at hl 1 rfl) ?_
    refine lv_aload_n hx hb dL_law_1339 rfl (lv_at hl 3 rfl) ?_
    refine lv_iload_n hx hb dL_law_1340 rfl (lv_at hl 0 rfl) ?_
    refine lv_iconst (v := 1) hx hb dL_law_1341 (by decide) ?_
    refine lv_iadd hx hb dL_law_1342 ?_
    refine tp_i (v := 1) (by decide) ?_
    refine va_sld hx hb hX hbl hbA hS (by unfold vp_in; decide) dL_law_1343 ?_
    refine tp_i (v := s1) h1 ?_
    refine lv_aload_n hx hb dL_law_1344 rfl (lv_at hl 3 rfl) ?_
    refine lv_iload_n hx hb dL_law_1345 rfl (lv_at hl 0 rfl) ?_
    refine lv_iconst (v := 2) hx hb dL_law_1346 (by decide) ?_
    refine lv_iadd hx hb dL_law_1347 ?_
    refine tp_i (v := 2) (by decide) ?_
    refine va_sld hx hb hX hbl hbA hS (by unfold vp_in; decide) dL_law_1348 ?_
    refine tp_i (v := s2) h2 ?_
    refine lv_aload_n hx hb dL_law_1349 rfl (lv_at hl 3 rfl) ?_
    refine lv_iload_n hx hb dL_law_1350 rfl (lv_at hl 0 rfl) ?_
    refine lv_iconst (v := 3) hx hb dL_law_1351 (by decide) ?_
    refine lv_iadd hx hb dL_law_1352 ?_
    refine tp_i (v := 3) (by decide) ?_
    refine va_sld hx hb hX hbl hbA hS (by unfold vp_in; decide) dL_law_1353 ?_
    refine tp_i (v := s3) h3 ?_
    refine kc_i (va_runV (As := [.int s1, .int s2, .int s3]) (rest := [.int (-2)]) ⟨hx, hb, hml, hown, hB⟩ (c207_X12_walk l D ty H.size m0 (qm 23) s1 s2 s3 (.int 0) (.ref (qm 0)) (.ref (qm 1)) (.ref (qm 2)) (.int 0) (.ref (qm 3)) (.int 0) (.int 0) (.int 0) (.int 0) (.int 0) (.int 0) (.int (-1)) (.ref (qm 4)) (.ref (qm 5)) (.ref (qm 6)) (.ref (qm 7)) (.ref (qm 8)) (.ref (qm 9)) (.ref (qm 10)) (.ref (qm 11)) (.ref (qm 12)) (.int 0) (.ref (qm 13)) (.int 0) (.ref (qm 14)) (.int 0) (.ref (qm 15)) (.ref (qm 16)) (.ref (qm 17)) (.int 0) (.ref (qm 18)) (.int 0) (.ref (qm 19)) (.ref (qm 20)) (.ref (qm 21)) (.ref (qm 22))) (cwV 3 hB (bw_V mw_864 mw_865 mw_866 mw_211 mw_863) rfl rfl rfl (by decide +kernel) ⟨Nat.le_of_ble_eq_true rfl, Nat.le_of_ble_eq_true rfl⟩) (kp_V hK hP hD [0, 24] (by decide) rfl 0 rfl rfl rfl) rfl rfl hl.1 rfl (lv_room (Nat.le_of_ble_eq_true rfl)) dL_law_1354 ⟨Nat.le_of_ble_eq_true rfl, Nat.le_of_ble_eq_true rfl⟩) hP hD hS hA [0, 24] [] (wr := []) rfl rfl (by decide) (by decide) (fun r u H locs w6 hP hD hS => ?_)
    rcases w6 with ⟨c7, rfl, rfl⟩ | ⟨c8, rfl, rfl⟩
    · have hP : va_P D vwCl [] H := hP
      have hD : va_D (fun q : Nat => s.heap.size ≤ q) [] := hD
      refine lv_icmp_eq (tgt := 1933) hx hb dL_law_1357 (by decide) (fun _ => ?_) (fun h9 => (ps_35 s1 s2 s3 c2 c7 h9).elim)
      refine lv_iinc (v := 6) (lv' := [(3, .int 6), (2, .ref m0), (1, .ref x0), (0, .ref b)]) hx hb dL_law_1933 hl (k := 0) rfl (by decide) (by decide) rfl (fun ls hl => ?_)
      refine lv_goto (tgt := 18) hx hb dL_law_1936 (by decide) ?_
      exact law_end l (Nat.le_refl 6) C0 hS (lv_sub hl [0, 3] rfl)
    · have hP : va_P D vwCl [] H := hP
      have hD : va_D (fun q : Nat => s.heap.size ≤ q) [] := hD
      refine lv_icmp_eq (tgt := 1933) hx hb dL_law_1357 (by decide) (fun _ => ?_) (fun h9 => absurd (by decide) h9)
      refine lv_iinc (v := 6) (lv' := [(3, .int 6), (2, .ref m0), (1, .ref x0), (0, .ref b)]) hx hb dL_law_1933 hl (k := 0) rfl (by decide) (by decide) rfl (fun ls hl => ?_)
      refine lv_goto (tgt := 18) hx hb dL_law_1936 (by decide) ?_
      exact law_end l (Nat.le_refl 6) C0 hS (lv_sub hl [0, 3] rfl)
  · have hP : va_P D vwCl [(m0, .inr (12, [.int 0, .ref (qm 23), .ref (qm 0), .ref (qm 1), .ref (qm 2), .int 0, .ref (qm 3), .int 0, .int 0, .int 0, .int 0, .int 0, .int 0, .int (-1), .ref (qm 4), .ref (qm 5), .ref (qm 6), .ref (qm 7), .ref (qm 8), .ref (qm 9), .ref (qm 10), .ref (qm 11), .ref (qm 12), .int 0, .ref (qm 13), .int 0, .ref (qm 14), .int 0, .ref (qm 15), .ref (qm 16), .ref (qm 17), .int 0, .ref (qm 18), .int 0, .ref (qm 19), .ref (qm 20), .ref (qm 21), .ref (qm 22)])), ((qm 0), .inl (ty 1, 912, .inl (kf 0))), ((qm 1), .inl (ty 3, 3, .inl (kf 0))), ((qm 2), .inl (ty 0, 800, .inl (kf 0))), ((qm 3), .inl (ty 1, 5, .inl (kf 0))), ((qm 4), .inl (ty 1, 304, .inl (kf 0))), ((qm 5), .inl (ty 3, 28, .inl (kf 0))), ((qm 6), .inl (ty 1, 28, .inl (kf 0))), ((qm 7), .inl (ty 1, 256, .inl (kf 0))), ((qm 8), .inl (ty 1, 256, .inl (kf 0))), ((qm 9), .inl (ty 3, 16, .inl (kf 0))), ((qm 10), .inl (ty 1, 28, .inl (kf 0))), ((qm 11), .inl (ty 1, 28, .inl (kf 0))), ((qm 12), .inl (ty 1, 44, .inl (kf 0))), ((qm 13), .inl (ty 1, 2, .inl (kf 0))), ((qm 14), .inl (ty 1, 9, .inl (kf 0))), ((qm 15), .inl (ty 1, 512, .inl (kf 0))), ((qm 16), .inl (ty 1, 512, .inl (kf 0))), ((qm 17), .inl (ty 1, 16, .inl (kf 0))), ((qm 18), .inl (ty 1, 2, .inl (kf 0))), ((qm 19), .inl (ty 1, 4, .inl (upd (upd (upd (upd (kf 0) 0 (-1)) 1 (-1)) 2 (-1)) 3 (-1)))), ((qm 20), .inl (ty 1, 4, .inl (kf 0))), ((qm 21), .inl (ty 2, 240, .inr (.inl (kj 0)))), ((qm 22), .inl (ty 2, 60, .inr (.inl (kj 0)))), ((qm 23), .inl (ty 1, 304, .inl (upd (upd (kf 0) 1 2) 4 (-1))))] H := hP
    have hD : va_D (fun q : Nat => s.heap.size ≤ q) [(m0, .inr (12, [.int 0, .ref (qm 23), .ref (qm 0), .ref (qm 1), .ref (qm 2), .int 0, .ref (qm 3), .int 0, .int 0, .int 0, .int 0, .int 0, .int 0, .int (-1), .ref (qm 4), .ref (qm 5), .ref (qm 6), .ref (qm 7), .ref (qm 8), .ref (qm 9), .ref (qm 10), .ref (qm 11), .ref (qm 12), .int 0, .ref (qm 13), .int 0, .ref (qm 14), .int 0, .ref (qm 15), .ref (qm 16), .ref (qm 17), .int 0, .ref (qm 18), .int 0, .ref (qm 19), .ref (qm 20), .ref (qm 21), .ref (qm 22)])), ((qm 0), .inl (ty 1, 912, .inl (kf 0))), ((qm 1), .inl (ty 3, 3, .inl (kf 0))), ((qm 2), .inl (ty 0, 800, .inl (kf 0))), ((qm 3), .inl (ty 1, 5, .inl (kf 0))), ((qm 4), .inl (ty 1, 304, .inl (kf 0))), ((qm 5), .inl (ty 3, 28, .inl (kf 0))), ((qm 6), .inl (ty 1, 28, .inl (kf 0))), ((qm 7), .inl (ty 1, 256, .inl (kf 0))), ((qm 8), .inl (ty 1, 256, .inl (kf 0))), ((qm 9), .inl (ty 3, 16, .inl (kf 0))), ((qm 10), .inl (ty 1, 28, .inl (kf 0))), ((qm 11), .inl (ty 1, 28, .inl (kf 0))), ((qm 12), .inl (ty 1, 44, .inl (kf 0))), ((qm 13), .inl (ty 1, 2, .inl (kf 0))), ((qm 14), .inl (ty 1, 9, .inl (kf 0))), ((qm 15), .inl (ty 1, 512, .inl (kf 0))), ((qm 16), .inl (ty 1, 512, .inl (kf 0))), ((qm 17), .inl (ty 1, 16, .inl (kf 0))), ((qm 18), .inl (ty 1, 2, .inl (kf 0))), ((qm 19), .inl (ty 1, 4, .inl (upd (upd (upd (upd (kf 0) 0 (-1)) 1 (-1)) 2 (-1)) 3 (-1)))), ((qm 20), .inl (ty 1, 4, .inl (kf 0))), ((qm 21), .inl (ty 2, 240, .inr (.inl (kj 0)))), ((qm 22), .inl (ty 2, 60, .inr (.inl (kj 0)))), ((qm 23), .inl (ty 1, 304, .inl (upd (upd (kf 0) 1 2) 4 (-1))))] := hD
    refine lv_aload_n hx hb dL_law_1338 rfl (lv_at hl 1 rfl) ?_
    refine lv_aload_n hx hb dL_law_1339 rfl (lv_at hl 3 rfl) ?_
    refine lv_iload_n hx hb dL_law_1340 rfl (lv_at hl 0 rfl) ?_
    refine lv_iconst (v := 1) hx hb dL_law_1341 (by decide) ?_
    refine lv_iadd hx hb dL_law_1342 ?_
    refine tp_i (v := 1) (by decide) ?_
    refine va_sld hx hb hX hbl hbA hS (by unfold vp_in; decide) dL_law_1343 ?_
    refine tp_i (v := s1) h1 ?_
    refine lv_aload_n hx hb dL_law_1344 rfl (lv_at hl 3 rfl) ?_
    refine lv_iload_n hx hb dL_law_1345 rfl (lv_at hl 0 rfl) ?_
    refine lv_iconst (v := 2) hx hb dL_law_1346 (by decide) ?_
    refine lv_iadd hx hb dL_law_1347 ?_
    refine tp_i (v := 2) (by decide) ?_
    refine va_sld hx hb hX hbl hbA hS (by unfold vp_in; decide) dL_law_1348 ?_
    refine tp_i (v := s2) h2 ?_
    refine lv_aload_n hx hb dL_law_1349 rfl (lv_at hl 3 rfl) ?_
    refine lv_iload_n hx hb dL_law_1350 rfl (lv_at hl 0 rfl) ?_
    refine lv_iconst (v := 3) hx hb dL_law_1351 (by decide) ?_
    refine lv_iadd hx hb dL_law_1352 ?_
    refine tp_i (v := 3) (by decide) ?_
    refine va_sld hx hb hX hbl hbA hS (by unfold vp_in; decide) dL_law_1353 ?_
    refine tp_i (v := s3) h3 ?_
    refine kc_i (va_runV (As := [.int s1, .int s2, .int s3]) (rest := [.int s2]) ⟨hx, hb, hml, hown, hB⟩ (c207_X12_walk l D ty H.size m0 (qm 23) s1 s2 s3 (.int 0) (.ref (qm 0)) (.ref (qm 1)) (.ref (qm 2)) (.int 0) (.ref (qm 3)) (.int 0) (.int 0) (.int 0) (.int 0) (.int 0) (.int 0) (.int (-1)) (.ref (qm 4)) (.ref (qm 5)) (.ref (qm 6)) (.ref (qm 7)) (.ref (qm 8)) (.ref (qm 9)) (.ref (qm 10)) (.ref (qm 11)) (.ref (qm 12)) (.int 0) (.ref (qm 13)) (.int 0) (.ref (qm 14)) (.int 0) (.ref (qm 15)) (.ref (qm 16)) (.ref (qm 17)) (.int 0) (.ref (qm 18)) (.int 0) (.ref (qm 19)) (.ref (qm 20)) (.ref (qm 21)) (.ref (qm 22))) (cwV 3 hB (bw_V mw_864 mw_865 mw_866 mw_211 mw_863) rfl rfl rfl (by decide +kernel) ⟨Nat.le_of_ble_eq_true rfl, Nat.le_of_ble_eq_true rfl⟩) (kp_V hK hP hD [0, 24] (by decide) rfl 0 rfl rfl rfl) rfl rfl hl.1 rfl (lv_room (Nat.le_of_ble_eq_true rfl)) dL_law_1354 ⟨Nat.le_of_ble_eq_true rfl, Nat.le_of_ble_eq_true rfl⟩) hP hD hS hA [0, 24] [] (wr := []) rfl rfl (by decide) (by decide) (fun r u H locs w9 hP hD hS => ?_)
    rcases w9 with ⟨c10, rfl, rfl⟩ | ⟨c11, rfl, rfl⟩
    · have hP : va_P D vwCl [] H := hP
      have hD : va_D (fun q : Nat => s.heap.size ≤ q) [] := hD
      refine lv_icmp_eq (tgt := 1933) hx hb dL_law_1357 (by decide) (fun _ => ?_) (fun h9 => absurd rfl h9)
      refine lv_iinc (v := 6) (lv' := [(3, .int 6), (2, .ref m0), (1, .ref x0), (0, .ref b)]) hx hb dL_law_1933 hl (k := 0) rfl (by decide) (by decide) rfl (fun ls hl => ?_)
      refine lv_goto (tgt := 18) hx hb dL_law_1936 (by decide) ?_
      exact law_end l (Nat.le_refl 6) C0 hS (lv_sub hl [0, 3] rfl)
    · exact (ps_36 s1 s2 s3 c3 c11).elim
  · have hP : va_P D vwCl [(m0, .inr (12, [.int 0, .ref (qm 23), .ref (qm 0), .ref (qm 1), .ref (qm 2), .int 0, .ref (qm 3), .int 0, .int 0, .int 0, .int 0, .int 0, .int 0, .int (-1), .ref (qm 4), .ref (qm 5), .ref (qm 6), .ref (qm 7), .ref (qm 8), .ref (qm 9), .ref (qm 10), .ref (qm 11), .ref (qm 12), .int 0, .ref (qm 13), .int 0, .ref (qm 14), .int 0, .ref (qm 15), .ref (qm 16), .ref (qm 17), .int 0, .ref (qm 18), .int 0, .ref (qm 19), .ref (qm 20), .ref (qm 21), .ref (qm 22)])), ((qm 0), .inl (ty 1, 912, .inl (kf 0))), ((qm 1), .inl (ty 3, 3, .inl (kf 0))), ((qm 2), .inl (ty 0, 800, .inl (kf 0))), ((qm 3), .inl (ty 1, 5, .inl (kf 0))), ((qm 4), .inl (ty 1, 304, .inl (kf 0))), ((qm 5), .inl (ty 3, 28, .inl (kf 0))), ((qm 6), .inl (ty 1, 28, .inl (kf 0))), ((qm 7), .inl (ty 1, 256, .inl (kf 0))), ((qm 8), .inl (ty 1, 256, .inl (kf 0))), ((qm 9), .inl (ty 3, 16, .inl (kf 0))), ((qm 10), .inl (ty 1, 28, .inl (kf 0))), ((qm 11), .inl (ty 1, 28, .inl (kf 0))), ((qm 12), .inl (ty 1, 44, .inl (kf 0))), ((qm 13), .inl (ty 1, 2, .inl (kf 0))), ((qm 14), .inl (ty 1, 9, .inl (kf 0))), ((qm 15), .inl (ty 1, 512, .inl (kf 0))), ((qm 16), .inl (ty 1, 512, .inl (kf 0))), ((qm 17), .inl (ty 1, 16, .inl (kf 0))), ((qm 18), .inl (ty 1, 2, .inl (kf 0))), ((qm 19), .inl (ty 1, 4, .inl (upd (upd (upd (upd (kf 0) 0 (-1)) 1 (-1)) 2 (-1)) 3 (-1)))), ((qm 20), .inl (ty 1, 4, .inl (kf 0))), ((qm 21), .inl (ty 2, 240, .inr (.inl (kj 0)))), ((qm 22), .inl (ty 2, 60, .inr (.inl (kj 0)))), ((qm 23), .inl (ty 1, 304, .inl (upd (upd (kf 0) 1 2) 4 (-1))))] H := hP
    have hD : va_D (fun q : Nat => s.heap.size ≤ q) [(m0, .inr (12, [.int 0, .ref (qm 23), .ref (qm 0), .ref (qm 1), .ref (qm 2), .int 0, .ref (qm 3), .int 0, .int 0, .int 0, .int 0, .int 0, .int 0, .int (-1), .ref (qm 4), .ref (qm 5), .ref (qm 6), .ref (qm 7), .ref (qm 8), .ref (qm 9), .ref (qm 10), .ref (qm 11), .ref (qm 12), .int 0, .ref (qm 13), .int 0, .ref (qm 14), .int 0, .ref (qm 15), .ref (qm 16), .ref (qm 17), .int 0, .ref (qm 18), .int 0, .ref (qm 19), .ref (qm 20), .ref (qm 21), .ref (qm 22)])), ((qm 0), .inl (ty 1, 912, .inl (kf 0))), ((qm 1), .inl (ty 3, 3, .inl (kf 0))), ((qm 2), .inl (ty 0, 800, .inl (kf 0))), ((qm 3), .inl (ty 1, 5, .inl (kf 0))), ((qm 4), .inl (ty 1, 304, .inl (kf 0))), ((qm 5), .inl (ty 3, 28, .inl (kf 0))), ((qm 6), .inl (ty 1, 28, .inl (kf 0))), ((qm 7), .inl (ty 1, 256, .inl (kf 0))), ((qm 8), .inl (ty 1, 256, .inl (kf 0))), ((qm 9), .inl (ty 3, 16, .inl (kf 0))), ((qm 10), .inl (ty 1, 28, .inl (kf 0))), ((qm 11), .inl (ty 1, 28, .inl (kf 0))), ((qm 12), .inl (ty 1, 44, .inl (kf 0))), ((qm 13), .inl (ty 1, 2, .inl (kf 0))), ((qm 14), .inl (ty 1, 9, .inl (kf 0))), ((qm 15), .inl (ty 1, 512, .inl (kf 0))), ((qm 16), .inl (ty 1, 512, .inl (kf 0))), ((qm 17), .inl (ty 1, 16, .inl (kf 0))), ((qm 18), .inl (ty 1, 2, .inl (kf 0))), ((qm 19), .inl (ty 1, 4, .inl (upd (upd (upd (upd (kf 0) 0 (-1)) 1 (-1)) 2 (-1)) 3 (-1)))), ((qm 20), .inl (ty 1, 4, .inl (kf 0))), ((qm 21), .inl (ty 2, 240, .inr (.inl (kj 0)))), ((qm 22), .inl (ty 2, 60, .inr (.inl (kj 0)))), ((qm 23), .inl (ty 1, 304, .inl (upd (upd (kf 0) 1 2) 4 (-1))))] := hD
    refine lv_aload_n hx hb dL_law_1338 rfl (lv_at hl 1 rfl) ?_
    refine lv_aload_n hx hb dL_law_1339 rfl (lv_at hl 3 rfl) ?_
    refine lv_iload_n hx hb dL_law_1340 rfl (lv_at hl 0 rfl) ?_
    refine lv_iconst (v := 1) hx hb dL_law_1341 (by decide) ?_
    refine lv_iadd hx hb dL_law_1342 ?_
    refine tp_i (v := 1) (by decide) ?_
    refine va_sld hx hb hX hbl hbA hS (by unfold vp_in; decide) dL_law_1343 ?_
    refine tp_i (v := s1) h1 ?_
    refine lv_aload_n hx hb dL_law_1344 rfl (lv_at hl 3 rfl) ?_
    refine lv_iload_n hx hb dL_law_1345 rfl (lv_at hl 0 rfl) ?_
    refine lv_iconst (v := 2) hx hb dL_law_1346 (by decide) ?_
    refine lv_iadd hx hb dL_law_1347 ?_
    refine tp_i (v := 2) (by decide) ?_
    refine va_sld hx hb hX hbl hbA hS (by unfold vp_in; decide) dL_law_1348 ?_
    refine tp_i (v := s2) h2 ?_
    refine lv_aload_n hx hb dL_law_1349 rfl (lv_at hl 3 rfl) ?_
    refine lv_iload_n hx hb dL_law_1350 rfl (lv_at hl 0 rfl) ?_
    refine lv_iconst (v := 3) hx hb dL_law_1351 (by decide) ?_
    refine lv_iadd hx hb dL_law_1352 ?_
    refine tp_i (v := 3) (by decide) ?_
    refine va_sld hx hb hX hbl hbA hS (by unfold vp_in; decide) dL_law_1353 ?_
    refine tp_i (v := s3) h3 ?_
    refine kc_i (va_runV (As := [.int s1, .int s2, .int s3]) (rest := [.int 0]) ⟨hx, hb, hml, hown, hB⟩ (c207_X12_walk l D ty H.size m0 (qm 23) s1 s2 s3 (.int 0) (.ref (qm 0)) (.ref (qm 1)) (.ref (qm 2)) (.int 0) (.ref (qm 3)) (.int 0) (.int 0) (.int 0) (.int 0) (.int 0) (.int 0) (.int (-1)) (.ref (qm 4)) (.ref (qm 5)) (.ref (qm 6)) (.ref (qm 7)) (.ref (qm 8)) (.ref (qm 9)) (.ref (qm 10)) (.ref (qm 11)) (.ref (qm 12)) (.int 0) (.ref (qm 13)) (.int 0) (.ref (qm 14)) (.int 0) (.ref (qm 15)) (.ref (qm 16)) (.ref (qm 17)) (.int 0) (.ref (qm 18)) (.int 0) (.ref (qm 19)) (.ref (qm 20)) (.ref (qm 21)) (.ref (qm 22))) (cwV 3 hB (bw_V mw_864 mw_865 mw_866 mw_211 mw_863) rfl rfl rfl (by decide +kernel) ⟨Nat.le_of_ble_eq_true rfl, Nat.le_of_ble_eq_true rfl⟩) (kp_V hK hP hD [0, 24] (by decide) rfl 0 rfl rfl rfl) rfl rfl hl.1 rfl (lv_room (Nat.le_of_ble_eq_true rfl)) dL_law_1354 ⟨Nat.le_of_ble_eq_true rfl, Nat.le_of_ble_eq_true rfl⟩) hP hD hS hA [0, 24] [] (wr := []) rfl rfl (by decide) (by decide) (fun r u H locs w12 hP hD hS => ?_)
    rcases w12 with ⟨c13, rfl, rfl⟩ | ⟨c14, rfl, rfl⟩
    · have hP : va_P D vwCl [] H := hP
      have hD : va_D (fun q : Nat => s.heap.size ≤ q) [] := hD
      refine lv_icmp_eq (tgt := 1933) hx hb dL_law_1357 (by decide) (fun _ => ?_) (fun h9 => (ps_37 s1 s2 s3 c4 c13 h9).elim)
      refine lv_iinc (v := 6) (lv' := [(3, .int 6), (2, .ref m0), (1, .ref x0), (0, .ref b)]) hx hb dL_law_1933 hl (k := 0) rfl (by decide) (by decide) rfl (fun ls hl => ?_)
      refine lv_goto (tgt := 18) hx hb dL_law_1936 (by decide) ?_
      exact law_end l (Nat.le_refl 6) C0 hS (lv_sub hl [0, 3] rfl)
    · exact (ps_38 s1 s2 s3 c4 c14).elim
  · have hP : va_P D vwCl [(m0, .inr (12, [.int 0, .ref (qm 23), .ref (qm 0), .ref (qm 1), .ref (qm 2), .int 0, .ref (qm 3), .int 0, .int 0, .int 0, .int 0, .int 0, .int 0, .int (-1), .ref (qm 4), .ref (qm 5), .ref (qm 6), .ref (qm 7), .ref (qm 8), .ref (qm 9), .ref (qm 10), .ref (qm 11), .ref (qm 12), .int 0, .ref (qm 13), .int 0, .ref (qm 14), .int 0, .ref (qm 15), .ref (qm 16), .ref (qm 17), .int 0, .ref (qm 18), .int 0, .ref (qm 19), .ref (qm 20), .ref (qm 21), .ref (qm 22)])), ((qm 0), .inl (ty 1, 912, .inl (kf 0))), ((qm 1), .inl (ty 3, 3, .inl (kf 0))), ((qm 2), .inl (ty 0, 800, .inl (kf 0))), ((qm 3), .inl (ty 1, 5, .inl (kf 0))), ((qm 4), .inl (ty 1, 304, .inl (kf 0))), ((qm 5), .inl (ty 3, 28, .inl (kf 0))), ((qm 6), .inl (ty 1, 28, .inl (kf 0))), ((qm 7), .inl (ty 1, 256, .inl (kf 0))), ((qm 8), .inl (ty 1, 256, .inl (kf 0))), ((qm 9), .inl (ty 3, 16, .inl (kf 0))), ((qm 10), .inl (ty 1, 28, .inl (kf 0))), ((qm 11), .inl (ty 1, 28, .inl (kf 0))), ((qm 12), .inl (ty 1, 44, .inl (kf 0))), ((qm 13), .inl (ty 1, 2, .inl (kf 0))), ((qm 14), .inl (ty 1, 9, .inl (kf 0))), ((qm 15), .inl (ty 1, 512, .inl (kf 0))), ((qm 16), .inl (ty 1, 512, .inl (kf 0))), ((qm 17), .inl (ty 1, 16, .inl (kf 0))), ((qm 18), .inl (ty 1, 2, .inl (kf 0))), ((qm 19), .inl (ty 1, 4, .inl (upd (upd (upd (upd (kf 0) 0 (-1)) 1 (-1)) 2 (-1)) 3 (-1)))), ((qm 20), .inl (ty 1, 4, .inl (kf 0))), ((qm 21), .inl (ty 2, 240, .inr (.inl (kj 0)))), ((qm 22), .inl (ty 2, 60, .inr (.inl (kj 0)))), ((qm 23), .inl (ty 1, 304, .inl (upd (upd (kf 0) 1 2) 4 (-1))))] H := hP
    have hD : va_D (fun q : Nat => s.heap.size ≤ q) [(m0, .inr (12, [.int 0, .ref (qm 23), .ref (qm 0), .ref (qm 1), .ref (qm 2), .int 0, .ref (qm 3), .int 0, .int 0, .int 0, .int 0, .int 0, .int 0, .int (-1), .ref (qm 4), .ref (qm 5), .ref (qm 6), .ref (qm 7), .ref (qm 8), .ref (qm 9), .ref (qm 10), .ref (qm 11), .ref (qm 12), .int 0, .ref (qm 13), .int 0, .ref (qm 14), .int 0, .ref (qm 15), .ref (qm 16), .ref (qm 17), .int 0, .ref (qm 18), .int 0, .ref (qm 19), .ref (qm 20), .ref (qm 21), .ref (qm 22)])), ((qm 0), .inl (ty 1, 912, .inl (kf 0))), ((qm 1), .inl (ty 3, 3, .inl (kf 0))), ((qm 2), .inl (ty 0, 800, .inl (kf 0))), ((qm 3), .inl (ty 1, 5, .inl (kf 0))), ((qm 4), .inl (ty 1, 304, .inl (kf 0))), ((qm 5), .inl (ty 3, 28, .inl (kf 0))), ((qm 6), .inl (ty 1, 28, .inl (kf 0))), ((qm 7), .inl (ty 1, 256, .inl (kf 0))), ((qm 8), .inl (ty 1, 256, .inl (kf 0))), ((qm 9), .inl (ty 3, 16, .inl (kf 0))), ((qm 10), .inl (ty 1, 28, .inl (kf 0))), ((qm 11), .inl (ty 1, 28, .inl (kf 0))), ((qm 12), .inl (ty 1, 44, .inl (kf 0))), ((qm 13), .inl (ty 1, 2, .inl (kf 0))), ((qm 14), .inl (ty 1, 9, .inl (kf 0))), ((qm 15), .inl (ty 1, 512, .inl (kf 0))), ((qm 16), .inl (ty 1, 512, .inl (kf 0))), ((qm 17), .inl (ty 1, 16, .inl (kf 0))), ((qm 18), .inl (ty 1, 2, .inl (kf 0))), ((qm 19), .inl (ty 1, 4, .inl (upd (upd (upd (upd (kf 0) 0 (-1)) 1 (-1)) 2 (-1)) 3 (-1)))), ((qm 20), .inl (ty 1, 4, .inl (kf 0))), ((qm 21), .inl (ty 2, 240, .inr (.inl (kj 0)))), ((qm 22), .inl (ty 2, 60, .inr (.inl (kj 0)))), ((qm 23), .inl (ty 1, 304, .inl (upd (upd (kf 0) 1 2) 4 (-1))))] := hD
    refine lv_aload_n hx hb dL_law_1338 rfl (lv_at hl 1 rfl) ?_
    refine lv_aload_n hx hb dL_law_1339 rfl (lv_at hl 3 rfl) ?_
    refine lv_iload_n hx hb dL_law_1340 rfl (lv_at hl 0 rfl) ?_
    refine lv_iconst (v := 1) hx hb dL_law_1341 (by decide) ?_
    refine lv_iadd hx hb dL_law_1342 ?_
    refine tp_i (v := 1) (by decide) ?_
    refine va_sld hx hb hX hbl hbA hS (by unfold vp_in; decide) dL_law_1343 ?_
    refine tp_i (v := s1) h1 ?_
    refine lv_aload_n hx hb dL_law_1344 rfl (lv_at hl 3 rfl) ?_
    refine lv_iload_n hx hb dL_law_1345 rfl (lv_at hl 0 rfl) ?_
    refine lv_iconst (v := 2) hx hb dL_law_1346 (by decide) ?_
    refine lv_iadd hx hb dL_law_1347 ?_
    refine tp_i (v := 2) (by decide) ?_
    refine va_sld hx hb hX hbl hbA hS (by unfold vp_in; decide) dL_law_1348 ?_
    refine tp_i (v := s2) h2 ?_
    refine lv_aload_n hx hb dL_law_1349 rfl (lv_at hl 3 rfl) ?_
    refine lv_iload_n hx hb dL_law_1350 rfl (lv_at hl 0 rfl) ?_
    refine lv_iconst (v := 3) hx hb dL_law_1351 (by decide) ?_
    refine lv_iadd hx hb dL_law_1352 ?_
    refine tp_i (v := 3) (by decide) ?_
    refine va_sld hx hb hX hbl hbA hS (by unfold vp_in; decide) dL_law_1353 ?_
    refine tp_i (v := s3) h3 ?_
    refine kc_i (va_runV (As := [.int s1, .int s2, .int s3]) (rest := [.int 1]) ⟨hx, hb, hml, hown, hB⟩ (c207_X12_walk l D ty H.size m0 (qm 23) s1 s2 s3 (.int 0) (.ref (qm 0)) (.ref (qm 1)) (.ref (qm 2)) (.int 0) (.ref (qm 3)) (.int 0) (.int 0) (.int 0) (.int 0) (.int 0) (.int 0) (.int (-1)) (.ref (qm 4)) (.ref (qm 5)) (.ref (qm 6)) (.ref (qm 7)) (.ref (qm 8)) (.ref (qm 9)) (.ref (qm 10)) (.ref (qm 11)) (.ref (qm 12)) (.int 0) (.ref (qm 13)) (.int 0) (.ref (qm 14)) (.int 0) (.ref (qm 15)) (.ref (qm 16)) (.ref (qm 17)) (.int 0) (.ref (qm 18)) (.int 0) (.ref (qm 19)) (.ref (qm 20)) (.ref (qm 21)) (.ref (qm 22))) (cwV 3 hB (bw_V mw_864 mw_865 mw_866 mw_211 mw_863) rfl rfl rfl (by decide +kernel) ⟨Nat.le_of_ble_eq_true rfl, Nat.le_of_ble_eq_true rfl⟩) (kp_V hK hP hD [0, 24] (by decide) rfl 0 rfl rfl rfl) rfl rfl hl.1 rfl (lv_room (Nat.le_of_ble_eq_true rfl)) dL_law_1354 ⟨Nat.le_of_ble_eq_true rfl, Nat.le_of_ble_eq_true rfl⟩) hP hD hS hA [0, 24] [] (wr := []) rfl rfl (by decide) (by decide) (fun r u H locs w15 hP hD hS => ?_)
    rcases w15 with ⟨c16, rfl, rfl⟩ | ⟨c17, rfl, rfl⟩
    · have hP : va_P D vwCl [] H := hP
      have hD : va_D (fun q : Nat => s.heap.size ≤ q) [] := hD
      refine lv_icmp_eq (tgt := 1933) hx hb dL_law_1357 (by decide) (fun _ => ?_) (fun h9 => (ps_39 s1 s2 s3 c5 c16 h9).elim)
      refine lv_iinc (v := 6) (lv' := [(3, .int 6), (2, .ref m0), (1, .ref x0), (0, .ref b)]) hx hb dL_law_1933 hl (k := 0) rfl (by decide) (by decide) rfl (fun ls hl => ?_)
      refine lv_goto (tgt := 18) hx hb dL_law_1936 (by decide) ?_
      exact law_end l (Nat.le_refl 6) C0 hS (lv_sub hl [0, 3] rfl)
    · exact (ps_40 s1 s2 s3 c5 c17).elim

set_option maxHeartbeats 4000000 in
set_option maxRecDepth 100000 in
theorem br_38 {p : Program} {e : Env} {s : State} {m : MethodId} {below : List Frame} {meth : Method} {c : Code} (l : Launch) {b : Nat} {xs : Nat → Int32} (C0 : lw_At p s m meth c b 6 xs) (D : va_G) (ty : Nat → ClassId) (hK : kK D ty s) (x0 m0 : Nat) (qx qm : Nat → Nat) {H : Heap} {locs : List Loc} {ls : Array Slot} (hP : va_P D vwCl (lawW ty x0 m0 qx qm) H) (hD : va_D (fun q : Nat => s.heap.size ≤ q) (lawW ty x0 m0 qx qm)) (hS : va_S (fun q : Nat => s.heap.size ≤ q) s.heap H locs) (hl : lv_has ls 4 [(3, .int 0), (2, .ref m0), (1, .ref x0), (0, .ref b)]) :
    W p l e room_1 s m #[Value.ref b] below meth c H locs 200 10000 (lw_Z below #[Value.ref b] s) (F0 m 1362 ls []) := by
  obtain ⟨hx, hb, hr, hml, hown0, hts, hX, hbl, hlocks, hgv⟩ := id C0
  have hown : s.vm.findClass RL = some m.cls := hown0
  have hB : ∀ w ∈ bW, w.before #[Value.ref b] s = true := fun w h => hts w (bW_lw h)
  have hA : ∀ q : Nat, s.heap.size ≤ q → (fun q : Nat => s.heap.size ≤ q) q := fun _ h => h
  have hbA : ¬ (fun q : Nat => s.heap.size ≤ q) b := Nat.not_le.mpr hbl
  obtain ⟨s1, h1⟩ : ∃ y, xs 1 = y := ⟨_, rfl⟩
  obtain ⟨s2, h2⟩ : ∃ y, xs 2 = y := ⟨_, rfl⟩
  obtain ⟨s3, h3⟩ : ∃ y, xs 3 = y := ⟨_, rfl⟩
  obtain ⟨s4, h4⟩ : ∃ y, xs 4 = y := ⟨_, rfl⟩
  obtain ⟨s5, h5⟩ : ∃ y, xs 5 = y := ⟨_, rfl⟩
  refine lv_aload_n hx hb dL_law_1362 rfl (lv_at hl 2 rfl) ?_
  refine kc_i (va_runV (As := []) (rest := []) ⟨hx, hb, hml, hown, hB⟩ (c111_X11_change l D ty H.size x0 (qx 19) (qx 32) (qx 118) (.ref (qx 0)) (.int 0) (.ref (qx 1)) (.ref (qx 35)) (.ref (qx 36)) (.ref (qx 119)) (.ref (qx 42)) (.ref (qx 44)) (.ref (qx 45)) (.ref (qx 50)) (.int (-1)) (.int (-1)) (.int (-1)) (.int (-1)) (.int 0) (qx 33) (qx 34) (.int 0) (.int 2) (.int (-1)) (.int 0) (.int 0) (.ref (qx 20)) (.ref (qx 21)) (.ref (qx 22)) (.ref (qx 23)) (.int 0) (.int 0) (.ref (qx 24)) (.ref (qx 28)) (.ref (qx 117)) (.ref (qx 31)) (.ref (qx 116)) (.int 0)) (cwV 0 hB (bw_V mw_868 mw_869 mw_870 mw_216 mw_867) rfl rfl rfl (by decide +kernel) ⟨Nat.le_of_ble_eq_true rfl, Nat.le_of_ble_eq_true rfl⟩) (kp_V hK hP hD [0, 20, 33, 119] (by decide) rfl 0 rfl rfl rfl) rfl rfl hl.1 rfl (lv_room (Nat.le_of_ble_eq_true rfl)) dL_law_1363 ⟨Nat.le_of_ble_eq_true rfl, Nat.le_of_ble_eq_true rfl⟩) hP hD hS hA [0, 20, 33, 119] [122, 123, 124, 125, 126, 127, 128, 129, 130, 131, 132, 133, 134, 135, 136, 137, 138, 139, 140, 141, 142, 143, 144, 145, 146] (wr := [(m0, .inr (12, [.int 0, .ref (qm 23), .ref (qm 0), .ref (qm 1), .ref (qm 2), .int 0, .ref (qm 3), .int 0, .int 0, .int 0, .int 0, .int 0, .int 0, .int (-1), .ref (qm 4), .ref (qm 5), .ref (qm 6), .ref (qm 7), .ref (qm 8), .ref (qm 9), .ref (qm 10), .ref (qm 11), .ref (qm 12), .int 0, .ref (qm 13), .int 0, .ref (qm 14), .int 0, .ref (qm 15), .ref (qm 16), .ref (qm 17), .int 0, .ref (qm 18), .int 0, .ref (qm 19), .ref (qm 20), .ref (qm 21), .ref (qm 22)])), ((qm 0), .inl (ty 1, 912, .inl (kf 0))), ((qm 1), .inl (ty 3, 3, .inl (kf 0))), ((qm 2), .inl (ty 0, 800, .inl (kf 0))), ((qm 3), .inl (ty 1, 5, .inl (kf 0))), ((qm 4), .inl (ty 1, 304, .inl (kf 0))), ((qm 5), .inl (ty 3, 28, .inl (kf 0))), ((qm 6), .inl (ty 1, 28, .inl (kf 0))), ((qm 7), .inl (ty 1, 256, .inl (kf 0))), ((qm 8), .inl (ty 1, 256, .inl (kf 0))), ((qm 9), .inl (ty 3, 16, .inl (kf 0))), ((qm 10), .inl (ty 1, 28, .inl (kf 0))), ((qm 11), .inl (ty 1, 28, .inl (kf 0))), ((qm 12), .inl (ty 1, 44, .inl (kf 0))), ((qm 13), .inl (ty 1, 2, .inl (kf 0))), ((qm 14), .inl (ty 1, 9, .inl (kf 0))), ((qm 15), .inl (ty 1, 512, .inl (kf 0))), ((qm 16), .inl (ty 1, 512, .inl (kf 0))), ((qm 17), .inl (ty 1, 16, .inl (kf 0))), ((qm 18), .inl (ty 1, 2, .inl (kf 0))), ((qm 19), .inl (ty 1, 4, .inl (upd (upd (upd (upd (kf 0) 0 (-1)) 1 (-1)) 2 (-1)) 3 (-1)))), ((qm 20), .inl (ty 1, 4, .inl (kf 0))), ((qm 21), .inl (ty 2, 240, .inr (.inl (kj 0)))), ((qm 22), .inl (ty 2, 60, .inr (.inl (kj 0)))), ((qm 23), .inl (ty 1, 304, .inl (upd (upd (kf 0) 1 2) 4 (-1))))]) rfl rfl (by decide) (by decide) (fun r u H locs w1 hP hD hS => ?_)
  obtain ⟨rfl, rfl⟩ := w1
  have hP : va_P D vwCl [(m0, .inr (12, [.int 0, .ref (qm 23), .ref (qm 0), .ref (qm 1), .ref (qm 2), .int 0, .ref (qm 3), .int 0, .int 0, .int 0, .int 0, .int 0, .int 0, .int (-1), .ref (qm 4), .ref (qm 5), .ref (qm 6), .ref (qm 7), .ref (qm 8), .ref (qm 9), .ref (qm 10), .ref (qm 11), .ref (qm 12), .int 0, .ref (qm 13), .int 0, .ref (qm 14), .int 0, .ref (qm 15), .ref (qm 16), .ref (qm 17), .int 0, .ref (qm 18), .int 0, .ref (qm 19), .ref (qm 20), .ref (qm 21), .ref (qm 22)])), ((qm 0), .inl (ty 1, 912, .inl (kf 0))), ((qm 1), .inl (ty 3, 3, .inl (kf 0))), ((qm 2), .inl (ty 0, 800, .inl (kf 0))), ((qm 3), .inl (ty 1, 5, .inl (kf 0))), ((qm 4), .inl (ty 1, 304, .inl (kf 0))), ((qm 5), .inl (ty 3, 28, .inl (kf 0))), ((qm 6), .inl (ty 1, 28, .inl (kf 0))), ((qm 7), .inl (ty 1, 256, .inl (kf 0))), ((qm 8), .inl (ty 1, 256, .inl (kf 0))), ((qm 9), .inl (ty 3, 16, .inl (kf 0))), ((qm 10), .inl (ty 1, 28, .inl (kf 0))), ((qm 11), .inl (ty 1, 28, .inl (kf 0))), ((qm 12), .inl (ty 1, 44, .inl (kf 0))), ((qm 13), .inl (ty 1, 2, .inl (kf 0))), ((qm 14), .inl (ty 1, 9, .inl (kf 0))), ((qm 15), .inl (ty 1, 512, .inl (kf 0))), ((qm 16), .inl (ty 1, 512, .inl (kf 0))), ((qm 17), .inl (ty 1, 16, .inl (kf 0))), ((qm 18), .inl (ty 1, 2, .inl (kf 0))), ((qm 19), .inl (ty 1, 4, .inl (upd (upd (upd (upd (kf 0) 0 (-1)) 1 (-1)) 2 (-1)) 3 (-1)))), ((qm 20), .inl (ty 1, 4, .inl (kf 0))), ((qm 21), .inl (ty 2, 240, .inr (.inl (kj 0)))), ((qm 22), .inl (ty 2, 60, .inr (.inl (kj 0)))), ((qm 23), .inl (ty 1, 304, .inl (upd (upd (kf 0) 1 2) 4 (-1))))] H := hP
  have hD : va_D (fun q : Nat => s.heap.size ≤ q) [(m0, .inr (12, [.int 0, .ref (qm 23), .ref (qm 0), .ref (qm 1), .ref (qm 2), .int 0, .ref (qm 3), .int 0, .int 0, .int 0, .int 0, .int 0, .int 0, .int (-1), .ref (qm 4), .ref (qm 5), .ref (qm 6), .ref (qm 7), .ref (qm 8), .ref (qm 9), .ref (qm 10), .ref (qm 11), .ref (qm 12), .int 0, .ref (qm 13), .int 0, .ref (qm 14), .int 0, .ref (qm 15), .ref (qm 16), .ref (qm 17), .int 0, .ref (qm 18), .int 0, .ref (qm 19), .ref (qm 20), .ref (qm 21), .ref (qm 22)])), ((qm 0), .inl (ty 1, 912, .inl (kf 0))), ((qm 1), .inl (ty 3, 3, .inl (kf 0))), ((qm 2), .inl (ty 0, 800, .inl (kf 0))), ((qm 3), .inl (ty 1, 5, .inl (kf 0))), ((qm 4), .inl (ty 1, 304, .inl (kf 0))), ((qm 5), .inl (ty 3, 28, .inl (kf 0))), ((qm 6), .inl (ty 1, 28, .inl (kf 0))), ((qm 7), .inl (ty 1, 256, .inl (kf 0))), ((qm 8), .inl (ty 1, 256, .inl (kf 0))), ((qm 9), .inl (ty 3, 16, .inl (kf 0))), ((qm 10), .inl (ty 1, 28, .inl (kf 0))), ((qm 11), .inl (ty 1, 28, .inl (kf 0))), ((qm 12), .inl (ty 1, 44, .inl (kf 0))), ((qm 13), .inl (ty 1, 2, .inl (kf 0))), ((qm 14), .inl (ty 1, 9, .inl (kf 0))), ((qm 15), .inl (ty 1, 512, .inl (kf 0))), ((qm 16), .inl (ty 1, 512, .inl (kf 0))), ((qm 17), .inl (ty 1, 16, .inl (kf 0))), ((qm 18), .inl (ty 1, 2, .inl (kf 0))), ((qm 19), .inl (ty 1, 4, .inl (upd (upd (upd (upd (kf 0) 0 (-1)) 1 (-1)) 2 (-1)) 3 (-1)))), ((qm 20), .inl (ty 1, 4, .inl (kf 0))), ((qm 21), .inl (ty 2, 240, .inr (.inl (kj 0)))), ((qm 22), .inl (ty 2, 60, .inr (.inl (kj 0)))), ((qm 23), .inl (ty 1, 304, .inl (upd (upd (kf 0) 1 2) 4 (-1))))] := hD
  refine lv_aload_n hx hb dL_law_1366 rfl (lv_at hl 1 rfl) ?_
  refine kc_i (va_runV (As := []) (rest := [.int 0]) ⟨hx, hb, hml, hown, hB⟩ (c208_X12_change l D ty H.size m0 (qm 23) (.int 0) (.ref (qm 0)) (.ref (qm 1)) (.ref (qm 2)) (.int 0) (.ref (qm 3)) (.int 0) (.int 0) (.int 0) (.int 0) (.int 0) (.int 0) (.int (-1)) (.ref (qm 4)) (.ref (qm 5)) (.ref (qm 6)) (.ref (qm 7)) (.ref (qm 8)) (.ref (qm 9)) (.ref (qm 10)) (.ref (qm 11)) (.ref (qm 12)) (.int 0) (.ref (qm 13)) (.int 0) (.ref (qm 14)) (.int 0) (.ref (qm 15)) (.ref (qm 16)) (.ref (qm 17)) (.int 0) (.ref (qm 18)) (.int 0) (.ref (qm 19)) (.ref (qm 20)) (.ref (qm 21)) (.ref (qm 22))) (cwV 0 hB (bw_V mw_872 mw_873 mw_874 mw_211 mw_871) rfl rfl rfl (by decide +kernel) ⟨Nat.le_of_ble_eq_true rfl, Nat.le_of_ble_eq_true rfl⟩) (kp_V hK hP hD [0, 24] (by decide) rfl 0 rfl rfl rfl) rfl rfl hl.1 rfl (lv_room (Nat.le_of_ble_eq_true rfl)) dL_law_1367 ⟨Nat.le_of_ble_eq_true rfl, Nat.le_of_ble_eq_true rfl⟩) hP hD hS hA [0, 24] [] (wr := []) rfl rfl (by decide) (by decide) (fun r u H locs w2 hP hD hS => ?_)
  obtain ⟨rfl, rfl⟩ := w2
  have hP : va_P D vwCl [] H := hP
  have hD : va_D (fun q : Nat => s.heap.size ≤ q) [] := hD
  refine lv_icmp_eq (tgt := 1933) hx hb dL_law_1370 (by decide) (fun _ => ?_) (fun h9 => absurd (by decide) h9)
  refine lv_iinc (v := 6) (lv' := [(3, .int 6), (2, .ref m0), (1, .ref x0), (0, .ref b)]) hx hb dL_law_1933 hl (k := 0) rfl (by decide) (by decide) rfl (fun ls hl => ?_)
  refine lv_goto (tgt := 18) hx hb dL_law_1936 (by decide) ?_
  exact law_end l (Nat.le_refl 6) C0 hS (lv_sub hl [0, 3] rfl)

set_option maxHeartbeats 4000000 in
set_option maxRecDepth 100000 in
theorem br_39 {p : Program} {e : Env} {s : State} {m : MethodId} {below : List Frame} {meth : Method} {c : Code} (l : Launch) {b : Nat} {xs : Nat → Int32} (C0 : lw_At p s m meth c b 6 xs) (D : va_G) (ty : Nat → ClassId) (hK : kK D ty s) (x0 m0 : Nat) (qx qm : Nat → Nat) {H : Heap} {locs : List Loc} {ls : Array Slot} (hP : va_P D vwCl (lawW ty x0 m0 qx qm) H) (hD : va_D (fun q : Nat => s.heap.size ≤ q) (lawW ty x0 m0 qx qm)) (hS : va_S (fun q : Nat => s.heap.size ≤ q) s.heap H locs) (hl : lv_has ls 4 [(3, .int 0), (2, .ref m0), (1, .ref x0), (0, .ref b)]) :
    W p l e room_1 s m #[Value.ref b] below meth c H locs 200 10000 (lw_Z below #[Value.ref b] s) (F0 m 1375 ls []) := by
  obtain ⟨hx, hb, hr, hml, hown0, hts, hX, hbl, hlocks, hgv⟩ := id C0
  have hown : s.vm.findClass RL = some m.cls := hown0
  have hB : ∀ w ∈ bW, w.before #[Value.ref b] s = true := fun w h => hts w (bW_lw h)
  have hA : ∀ q : Nat, s.heap.size ≤ q → (fun q : Nat => s.heap.size ≤ q) q := fun _ h => h
  have hbA : ¬ (fun q : Nat => s.heap.size ≤ q) b := Nat.not_le.mpr hbl
  obtain ⟨s1, h1⟩ : ∃ y, xs 1 = y := ⟨_, rfl⟩
  obtain ⟨s2, h2⟩ : ∃ y, xs 2 = y := ⟨_, rfl⟩
  obtain ⟨s3, h3⟩ : ∃ y, xs 3 = y := ⟨_, rfl⟩
  obtain ⟨s4, h4⟩ : ∃ y, xs 4 = y := ⟨_, rfl⟩
  obtain ⟨s5, h5⟩ : ∃ y, xs 5 = y := ⟨_, rfl⟩
  refine lv_aload_n hx hb dL_law_1375 rfl (lv_at hl 2 rfl) ?_
  refine lv_aload_n hx hb dL_law_1376 rfl (lv_at hl 3 rfl) ?_
  refine lv_iload_n hx hb dL_law_1377 rfl (lv_at hl 0 rfl) ?_
  refine lv_iconst (v := 1) hx hb dL_law_1378 (by decide) ?_
  refine lv_iadd hx hb dL_law_1379 ?_
  refine tp_i (v := 1) (by decide) ?_
  refine va_sld hx hb hX hbl hbA hS (by unfold vp_in; decide) dL_law_1380 ?_
  refine tp_i (v := s1) h1 ?_
  refine kc_i (va_runV (As := [.int s1]) (rest := []) ⟨hx, hb, hml, hown, hB⟩ (c113_X11_signs l D ty H.size x0 (qx 19) (qx 32) (qx 118) (qx 117) s1 (.ref (qx 0)) (.int 0) (.ref (qx 1)) (.ref (qx 35)) (.ref (qx 36)) (.ref (qx 119)) (.ref (qx 42)) (.ref (qx 44)) (.ref (qx 45)) (.ref (qx 50)) (.int (-1)) (.int (-1)) (.int (-1)) (.int (-1)) (.int 0) (qx 33) (qx 34) (.int 0) (.int 0) (.int (-1)) (.int 0) (.int 0) (.ref (qx 20)) (.ref (qx 21)) (.ref (qx 22)) (.ref (qx 23)) (.int 0) (.int 0) (.ref (qx 24)) (.ref (qx 28)) (.ref (qx 31)) (.ref (qx 116)) (.int 0)) (cwV 1 hB (bw_V mw_876 mw_877 mw_878 mw_216 mw_875) rfl rfl rfl (by decide +kernel) ⟨Nat.le_of_ble_eq_true rfl, Nat.le_of_ble_eq_true rfl⟩) (kp_V hK hP hD [0, 20, 33, 119, 118] (by decide) rfl 0 rfl rfl rfl) rfl rfl hl.1 rfl (lv_room (Nat.le_of_ble_eq_true rfl)) dL_law_1381 ⟨Nat.le_of_ble_eq_true rfl, Nat.le_of_ble_eq_true rfl⟩) hP hD hS hA [0, 20, 33, 119, 118] [122, 123, 124, 125, 126, 127, 128, 129, 130, 131, 132, 133, 134, 135, 136, 137, 138, 139, 140, 141, 142, 143, 144, 145, 146] (wr := [(m0, .inr (12, [.int 0, .ref (qm 23), .ref (qm 0), .ref (qm 1), .ref (qm 2), .int 0, .ref (qm 3), .int 0, .int 0, .int 0, .int 0, .int 0, .int 0, .int (-1), .ref (qm 4), .ref (qm 5), .ref (qm 6), .ref (qm 7), .ref (qm 8), .ref (qm 9), .ref (qm 10), .ref (qm 11), .ref (qm 12), .int 0, .ref (qm 13), .int 0, .ref (qm 14), .int 0, .ref (qm 15), .ref (qm 16), .ref (qm 17), .int 0, .ref (qm 18), .int 0, .ref (qm 19), .ref (qm 20), .ref (qm 21), .ref (qm 22)])), ((qm 0), .inl (ty 1, 912, .inl (kf 0))), ((qm 1), .inl (ty 3, 3, .inl (kf 0))), ((qm 2), .inl (ty 0, 800, .inl (kf 0))), ((qm 3), .inl (ty 1, 5, .inl (kf 0))), ((qm 4), .inl (ty 1, 304, .inl (kf 0))), ((qm 5), .inl (ty 3, 28, .inl (kf 0))), ((qm 6), .inl (ty 1, 28, .inl (kf 0))), ((qm 7), .inl (ty 1, 256, .inl (kf 0))), ((qm 8), .inl (ty 1, 256, .inl (kf 0))), ((qm 9), .inl (ty 3, 16, .inl (kf 0))), ((qm 10), .inl (ty 1, 28, .inl (kf 0))), ((qm 11), .inl (ty 1, 28, .inl (kf 0))), ((qm 12), .inl (ty 1, 44, .inl (kf 0))), ((qm 13), .inl (ty 1, 2, .inl (kf 0))), ((qm 14), .inl (ty 1, 9, .inl (kf 0))), ((qm 15), .inl (ty 1, 512, .inl (kf 0))), ((qm 16), .inl (ty 1, 512, .inl (kf 0))), ((qm 17), .inl (ty 1, 16, .inl (kf 0))), ((qm 18), .inl (ty 1, 2, .inl (kf 0))), ((qm 19), .inl (ty 1, 4, .inl (upd (upd (upd (upd (kf 0) 0 (-1)) 1 (-1)) 2 (-1)) 3 (-1)))), ((qm 20), .inl (ty 1, 4, .inl (kf 0))), ((qm 21), .inl (ty 2, 240, .inr (.inl (kj 0)))), ((qm 22), .inl (ty 2, 60, .inr (.inl (kj 0)))), ((qm 23), .inl (ty 1, 304, .inl (upd (upd (kf 0) 1 2) 4 (-1))))]) rfl rfl (by decide) (by decide) (fun r u H locs w1 hP hD hS => ?_)
  rcases w1 with ⟨c2, rfl, rfl⟩ | ⟨c3, rfl, rfl⟩
  · have hP : va_P D vwCl [(m0, .inr (12, [.int 0, .ref (qm 23), .ref (qm 0), .ref (qm 1), .ref (qm 2), .int 0, .ref (qm 3), .int 0, .int 0, .int 0, .int 0, .int 0, .int 0, .int (-1), .ref (qm 4), .ref (qm 5), .ref (qm 6), .ref (qm 7), .ref (qm 8), .ref (qm 9), .ref (qm 10), .ref (qm 11), .ref (qm 12), .int 0, .ref (qm 13), .int 0, .ref (qm 14), .int 0, .ref (qm 15), .ref (qm 16), .ref (qm 17), .int 0, .ref (qm 18), .int 0, .ref (qm 19), .ref (qm 20), .ref (qm 21), .ref (qm 22)])), ((qm 0), .inl (ty 1, 912, .inl (kf 0))), ((qm 1), .inl (ty 3, 3, .inl (kf 0))), ((qm 2), .inl (ty 0, 800, .inl (kf 0))), ((qm 3), .inl (ty 1, 5, .inl (kf 0))), ((qm 4), .inl (ty 1, 304, .inl (kf 0))), ((qm 5), .inl (ty 3, 28, .inl (kf 0))), ((qm 6), .inl (ty 1, 28, .inl (kf 0))), ((qm 7), .inl (ty 1, 256, .inl (kf 0))), ((qm 8), .inl (ty 1, 256, .inl (kf 0))), ((qm 9), .inl (ty 3, 16, .inl (kf 0))), ((qm 10), .inl (ty 1, 28, .inl (kf 0))), ((qm 11), .inl (ty 1, 28, .inl (kf 0))), ((qm 12), .inl (ty 1, 44, .inl (kf 0))), ((qm 13), .inl (ty 1, 2, .inl (kf 0))), ((qm 14), .inl (ty 1, 9, .inl (kf 0))), ((qm 15), .inl (ty 1, 512, .inl (kf 0))), ((qm 16), .inl (ty 1, 512, .inl (kf 0))), ((qm 17), .inl (ty 1, 16, .inl (kf 0))), ((qm 18), .inl (ty 1, 2, .inl (kf 0))), ((qm 19), .inl (ty 1, 4, .inl (upd (upd (upd (upd (kf 0) 0 (-1)) 1 (-1)) 2 (-1)) 3 (-1)))), ((qm 20), .inl (ty 1, 4, .inl (kf 0))), ((qm 21), .inl (ty 2, 240, .inr (.inl (kj 0)))), ((qm 22), .inl (ty 2, 60, .inr (.inl (kj 0)))), ((qm 23), .inl (ty 1, 304, .inl (upd (upd (kf 0) 1 2) 4 (-1))))] H := hP
    have hD : va_D (fun q : Nat => s.heap.size ≤ q) [(m0, .inr (12, [.int 0, .ref (qm 23), .ref (qm 0), .ref (qm 1), .ref (qm 2), .int 0, .ref (qm 3), .int 0, .int 0, .int 0, .int 0, .int 0, .int 0, .int (-1), .ref (qm 4), .ref (qm 5), .ref (qm 6), .ref (qm 7), .ref (qm 8), .ref (qm 9), .ref (qm 10), .ref (qm 11), .ref (qm 12), .int 0, .ref (qm 13), .int 0, .ref (qm 14), .int 0, .ref (qm 15), .ref (qm 16), .ref (qm 17), .int 0, .ref (qm 18), .int 0, .ref (qm 19), .ref (qm 20), .ref (qm 21), .ref (qm 22)])), ((qm 0), .inl (ty 1, 912, .inl (kf 0))), ((qm 1), .inl (ty 3, 3, .inl (kf 0))), ((qm 2), .inl (ty 0, 800, .inl (kf 0))), ((qm 3), .inl (ty 1, 5, .inl (kf 0))), ((qm 4), .inl (ty 1, 304, .inl (kf 0))), ((qm 5), .inl (ty 3, 28, .inl (kf 0))), ((qm 6), .inl (ty 1, 28, .inl (kf 0))), ((qm 7), .inl (ty 1, 256, .inl (kf 0))), ((qm 8), .inl (ty 1, 256, .inl (kf 0))), ((qm 9), .inl (ty 3, 16, .inl (kf 0))), ((qm 10), .inl (ty 1, 28, .inl (kf 0))), ((qm 11), .inl (ty 1, 28, .inl (kf 0))), ((qm 12), .inl (ty 1, 44, .inl (kf 0))), ((qm 13), .inl (ty 1, 2, .inl (kf 0))), ((qm 14), .inl (ty 1, 9, .inl (kf 0))), ((qm 15), .inl (ty 1, 512, .inl (kf 0))), ((qm 16), .inl (ty 1, 512, .inl (kf 0))), ((qm 17), .inl (ty 1, 16, .inl (kf 0))), ((qm 18), .inl (ty 1, 2, .inl (kf 0))), ((qm 19), .inl (ty 1, 4, .inl (upd (upd (upd (upd (kf 0) 0 (-1)) 1 (-1)) 2 (-1)) 3 (-1)))), ((qm 20), .inl (ty 1, 4, .inl (kf 0))), ((qm 21), .inl (ty 2, 240, .inr (.inl (kj 0)))), ((qm 22), .inl (ty 2, 60, .inr (.inl (kj 0)))), ((qm 23), .inl (ty 1, 304, .inl (upd (upd (kf 0) 1 2) 4 (-1))))] := hD
    refine lv_aload_n hx hb dL_law_1384 rfl (lv_at hl 1 rfl) ?_
    refine lv_aload_n hx hb dL_law_1385 rfl (lv_at hl 3 rfl) ?_
    refine lv_iload_n hx hb dL_law_1386 rfl (lv_at hl 0 rfl) ?_
    refine lv_iconst (v := 1) hx hb dL_law_1387 (by decide) ?_
    refine lv_iadd hx hb dL_law_1388 ?_
    refine tp_i (v := 1) (by decide) ?_
    refine va_sld hx hb hX hbl hbA hS (by unfold vp_in; decide) dL_law_1389 ?_
    refine tp_i (v := s1) h1 ?_
    refine kc_i (va_runV (As := [.int s1]) (rest := [.int (-2)]) ⟨hx, hb, hml, hown, hB⟩ (c209_X12_signs l D ty H.size m0 (qm 23) s1 (.int 0) (.ref (qm 0)) (.ref (qm 1)) (.ref (qm 2)) (.int 0) (.ref (qm 3)) (.int 0) (.int 0) (.int 0) (.int 0) (.int 0) (.int 0) (.int (-1)) (.ref (qm 4)) (.ref (qm 5)) (.ref (qm 6)) (.ref (qm 7)) (.ref (qm 8)) (.ref (qm 9)) (.ref (qm 10)) (.ref (qm 11)) (.ref (qm 12)) (.int 0) (.ref (qm 13)) (.int 0) (.ref (qm 14)) (.int 0) (.ref (qm 15)) (.ref (qm 16)) (.ref (qm 17)) (.int 0) (.ref (qm 18)) (.int 0) (.ref (qm 19)) (.ref (qm 20)) (.ref (qm 21)) (.ref (qm 22))) (cwV 1 hB (bw_V mw_880 mw_881 mw_882 mw_211 mw_879) rfl rfl rfl (by decide +kernel) ⟨Nat.le_of_ble_eq_true rfl, Nat.le_of_ble_eq_true rfl⟩) (kp_V hK hP hD [0, 24] (by decide) rfl 0 rfl rfl rfl) rfl rfl hl.1 rfl (lv_room (Nat.le_of_ble_eq_true rfl)) dL_law_1390 ⟨Nat.le_of_ble_eq_true rfl, Nat.le_of_ble_eq_true rfl⟩) hP hD hS hA [0, 24] [] (wr := []) rfl rfl (by decide) (by decide) (fun r u H locs w4 hP hD hS => ?_)
    rcases w4 with ⟨c5, rfl, rfl⟩ | ⟨c6, rfl, rfl⟩
    · exact (ps_15 s1 c2 c5).elim
    · have hP : va_P D vwCl [] H := hP
      have hD : va_D (fun q : Nat => s.heap.size ≤ q) [] := hD
      refine lv_icmp_eq (tgt := 1933) hx hb dL_law_1393 (by decide) (fun _ => ?_) (fun h9 => absurd (by decide) h9)
      refine lv_iinc (v := 6) (lv' := [(3, .int 6), (2, .ref m0), (1, .ref x0), (0, .ref b)]) hx hb dL_law_1933 hl (k := 0) rfl (by decide) (by decide) rfl (fun ls hl => ?_)
      refine lv_goto (tgt := 18) hx hb dL_law_1936 (by decide) ?_
      exact law_end l (Nat.le_refl 6) C0 hS (lv_sub hl [0, 3] rfl)
  · have hP : va_P D vwCl [(m0, .inr (12, [.int 0, .ref (qm 23), .ref (qm 0), .ref (qm 1), .ref (qm 2), .int 0, .ref (qm 3), .int 0, .int 0, .int 0, .int 0, .int 0, .int 0, .int (-1), .ref (qm 4), .ref (qm 5), .ref (qm 6), .ref (qm 7), .ref (qm 8), .ref (qm 9), .ref (qm 10), .ref (qm 11), .ref (qm 12), .int 0, .ref (qm 13), .int 0, .ref (qm 14), .int 0, .ref (qm 15), .ref (qm 16), .ref (qm 17), .int 0, .ref (qm 18), .int 0, .ref (qm 19), .ref (qm 20), .ref (qm 21), .ref (qm 22)])), ((qm 0), .inl (ty 1, 912, .inl (kf 0))), ((qm 1), .inl (ty 3, 3, .inl (kf 0))), ((qm 2), .inl (ty 0, 800, .inl (kf 0))), ((qm 3), .inl (ty 1, 5, .inl (kf 0))), ((qm 4), .inl (ty 1, 304, .inl (kf 0))), ((qm 5), .inl (ty 3, 28, .inl (kf 0))), ((qm 6), .inl (ty 1, 28, .inl (kf 0))), ((qm 7), .inl (ty 1, 256, .inl (kf 0))), ((qm 8), .inl (ty 1, 256, .inl (kf 0))), ((qm 9), .inl (ty 3, 16, .inl (kf 0))), ((qm 10), .inl (ty 1, 28, .inl (kf 0))), ((qm 11), .inl (ty 1, 28, .inl (kf 0))), ((qm 12), .inl (ty 1, 44, .inl (kf 0))), ((qm 13), .inl (ty 1, 2, .inl (kf 0))), ((qm 14), .inl (ty 1, 9, .inl (kf 0))), ((qm 15), .inl (ty 1, 512, .inl (kf 0))), ((qm 16), .inl (ty 1, 512, .inl (kf 0))), ((qm 17), .inl (ty 1, 16, .inl (kf 0))), ((qm 18), .inl (ty 1, 2, .inl (kf 0))), ((qm 19), .inl (ty 1, 4, .inl (upd (upd (upd (upd (kf 0) 0 (-1)) 1 (-1)) 2 (-1)) 3 (-1)))), ((qm 20), .inl (ty 1, 4, .inl (kf 0))), ((qm 21), .inl (ty 2, 240, .inr (.inl (kj 0)))), ((qm 22), .inl (ty 2, 60, .inr (.inl (kj 0)))), ((qm 23), .inl (ty 1, 304, .inl (upd (upd (kf 0) 1 2) 4 (-1))))] H := hP
    have hD : va_D (fun q : Nat => s.heap.size ≤ q) [(m0, .inr (12, [.int 0, .ref (qm 23), .ref (qm 0), .ref (qm 1), .ref (qm 2), .int 0, .ref (qm 3), .int 0, .int 0, .int 0, .int 0, .int 0, .int 0, .int (-1), .ref (qm 4), .ref (qm 5), .ref (qm 6), .ref (qm 7), .ref (qm 8), .ref (qm 9), .ref (qm 10), .ref (qm 11), .ref (qm 12), .int 0, .ref (qm 13), .int 0, .ref (qm 14), .int 0, .ref (qm 15), .ref (qm 16), .ref (qm 17), .int 0, .ref (qm 18), .int 0, .ref (qm 19), .ref (qm 20), .ref (qm 21), .ref (qm 22)])), ((qm 0), .inl (ty 1, 912, .inl (kf 0))), ((qm 1), .inl (ty 3, 3, .inl (kf 0))), ((qm 2), .inl (ty 0, 800, .inl (kf 0))), ((qm 3), .inl (ty 1, 5, .inl (kf 0))), ((qm 4), .inl (ty 1, 304, .inl (kf 0))), ((qm 5), .inl (ty 3, 28, .inl (kf 0))), ((qm 6), .inl (ty 1, 28, .inl (kf 0))), ((qm 7), .inl (ty 1, 256, .inl (kf 0))), ((qm 8), .inl (ty 1, 256, .inl (kf 0))), ((qm 9), .inl (ty 3, 16, .inl (kf 0))), ((qm 10), .inl (ty 1, 28, .inl (kf 0))), ((qm 11), .inl (ty 1, 28, .inl (kf 0))), ((qm 12), .inl (ty 1, 44, .inl (kf 0))), ((qm 13), .inl (ty 1, 2, .inl (kf 0))), ((qm 14), .inl (ty 1, 9, .inl (kf 0))), ((qm 15), .inl (ty 1, 512, .inl (kf 0))), ((qm 16), .inl (ty 1, 512, .inl (kf 0))), ((qm 17), .inl (ty 1, 16, .inl (kf 0))), ((qm 18), .inl (ty 1, 2, .inl (kf 0))), ((qm 19), .inl (ty 1, 4, .inl (upd (upd (upd (upd (kf 0) 0 (-1)) 1 (-1)) 2 (-1)) 3 (-1)))), ((qm 20), .inl (ty 1, 4, .inl (kf 0))), ((qm 21), .inl (ty 2, 240, .inr (.inl (kj 0)))), ((qm 22), .inl (ty 2, 60, .inr (.inl (kj 0)))), ((qm 23), .inl (ty 1, 304, .inl (upd (upd (kf 0) 1 2) 4 (-1))))] := hD
    refine lv_aload_n hx hb dL_law_1384 rfl (lv_at hl 1 rfl) ?_
    refine lv_aload_n hx hb dL_law_1385 rfl (lv_at hl 3 rfl) ?_
    refine lv_iload_n hx hb dL_law_1386 rfl (lv_at hl 0 rfl) ?_
    refine lv_iconst (v := 1) hx hb dL_law_1387 (by decide) ?_
    refine lv_iadd hx hb dL_law_1388 ?_
    refine tp_i (v := 1) (by decide) ?_
    refine va_sld hx hb hX hbl hbA hS (by unfold vp_in; decide) dL_law_1389 ?_
    refine tp_i (v := s1) h1 ?_
    refine kc_i (va_runV (As := [.int s1]) (rest := [.int 0]) ⟨hx, hb, hml, hown, hB⟩ (c209_X12_signs l D ty H.size m0 (qm 23) s1 (.int 0) (.ref (qm 0)) (.ref (qm 1)) (.ref (qm 2)) (.int 0) (.ref (qm 3)) (.int 0) (.int 0) (.int 0) (.int 0) (.int 0) (.int 0) (.int (-1)) (.ref (qm 4)) (.ref (qm 5)) (.ref (qm 6)) (.ref (qm 7)) (.ref (qm 8)) (.ref (qm 9)) (.ref (qm 10)) (.ref (qm 11)) (.ref (qm 12)) (.int 0) (.ref (qm 13)) (.int 0) (.ref (qm 14)) (.int 0) (.ref (qm 15)) (.ref (qm 16)) (.ref (qm 17)) (.int 0) (.ref (qm 18)) (.int 0) (.ref (qm 19)) (.ref (qm 20)) (.ref (qm 21)) (.ref (qm 22))) (cwV 1 hB (bw_V mw_880 mw_881 mw_882 mw_211 mw_879) rfl rfl rfl (by decide +kernel) ⟨Nat.le_of_ble_eq_true rfl, Nat.le_of_ble_eq_true rfl⟩) (kp_V hK hP hD [0, 24] (by decide) rfl 0 rfl rfl rfl) rfl rfl hl.1 rfl (lv_room (Nat.le_of_ble_eq_true rfl)) dL_law_1390 ⟨Nat.le_of_ble_eq_true rfl, Nat.le_of_ble_eq_true rfl⟩) hP hD hS hA [0, 24] [] (wr := []) rfl rfl (by decide) (by decide) (fun r u H locs w7 hP hD hS => ?_)
    rcases w7 with ⟨c8, rfl, rfl⟩ | ⟨c9, rfl, rfl⟩
    · have hP : va_P D vwCl [] H := hP
      have hD : va_D (fun q : Nat => s.heap.size ≤ q) [] := hD
      refine lv_icmp_eq (tgt := 1933) hx hb dL_law_1393 (by decide) (fun _ => ?_) (fun h9 => absurd (by decide) h9)
      refine lv_iinc (v := 6) (lv' := [(3, .int 6), (2, .ref m0), (1, .ref x0), (0, .ref b)]) hx hb dL_law_1933 hl (k := 0) rfl (by decide) (by decide) rfl (fun ls hl => ?_)
      refine lv_goto (tgt := 18) hx hb dL_law_1936 (by decide) ?_
      exact law_end l (Nat.le_refl 6) C0 hS (lv_sub hl [0, 3] rfl)
    · exact (ps_17 s1 c3 c9).elim

set_option maxHeartbeats 4000000 in
set_option maxRecDepth 100000 in
theorem br_40 {p : Program} {e : Env} {s : State} {m : MethodId} {below : List Frame} {meth : Method} {c : Code} (l : Launch) {b : Nat} {xs : Nat → Int32} (C0 : lw_At p s m meth c b 6 xs) (D : va_G) (ty : Nat → ClassId) (hK : kK D ty s) (x0 m0 : Nat) (qx qm : Nat → Nat) {H : Heap} {locs : List Loc} {ls : Array Slot} (hP : va_P D vwCl (lawW ty x0 m0 qx qm) H) (hD : va_D (fun q : Nat => s.heap.size ≤ q) (lawW ty x0 m0 qx qm)) (hS : va_S (fun q : Nat => s.heap.size ≤ q) s.heap H locs) (hl : lv_has ls 4 [(3, .int 0), (2, .ref m0), (1, .ref x0), (0, .ref b)]) :
    W p l e room_1 s m #[Value.ref b] below meth c H locs 200 10000 (lw_Z below #[Value.ref b] s) (F0 m 1398 ls []) := by
  obtain ⟨hx, hb, hr, hml, hown0, hts, hX, hbl, hlocks, hgv⟩ := id C0
  have hown : s.vm.findClass RL = some m.cls := hown0
  have hB : ∀ w ∈ bW, w.before #[Value.ref b] s = true := fun w h => hts w (bW_lw h)
  have hA : ∀ q : Nat, s.heap.size ≤ q → (fun q : Nat => s.heap.size ≤ q) q := fun _ h => h
  have hbA : ¬ (fun q : Nat => s.heap.size ≤ q) b := Nat.not_le.mpr hbl
  obtain ⟨s1, h1⟩ : ∃ y, xs 1 = y := ⟨_, rfl⟩
  obtain ⟨s2, h2⟩ : ∃ y, xs 2 = y := ⟨_, rfl⟩
  obtain ⟨s3, h3⟩ : ∃ y, xs 3 = y := ⟨_, rfl⟩
  obtain ⟨s4, h4⟩ : ∃ y, xs 4 = y := ⟨_, rfl⟩
  obtain ⟨s5, h5⟩ : ∃ y, xs 5 = y := ⟨_, rfl⟩
  refine lv_aload_n hx hb dL_law_1398 rfl (lv_at hl 2 rfl) ?_
  refine lv_aload_n hx hb dL_law_1399 rfl (lv_at hl 3 rfl) ?_
  refine lv_iload_n hx hb dL_law_1400 rfl (lv_at hl 0 rfl) ?_
  refine lv_iconst (v := 1) hx hb dL_law_1401 (by decide) ?_
  refine lv_iadd hx hb dL_law_1402 ?_
  refine tp_i (v := 1) (by decide) ?_
  refine va_sld hx hb hX hbl hbA hS (by unfold vp_in; decide) dL_law_1403 ?_
  refine tp_i (v := s1) h1 ?_
  refine lv_aload_n hx hb dL_law_1404 rfl (lv_at hl 3 rfl) ?_
  refine lv_iload_n hx hb dL_law_1405 rfl (lv_at hl 0 rfl) ?_
  refine lv_iconst (v := 2) hx hb dL_law_1406 (by decide) ?_
  refine lv_iadd hx hb dL_law_1407 ?_
  refine tp_i (v := 2) (by decide) ?_
  refine va_sld hx hb hX hbl hbA hS (by unfold vp_in; decide) dL_law_1408 ?_
  refine tp_i (v := s2) h2 ?_
  refine lv_aload_n hx hb dL_law_1409 rfl (lv_at hl 3 rfl) ?_
  refine lv_iload_n hx hb dL_law_1410 rfl (lv_at hl 0 rfl) ?_
  refine lv_iconst (v := 3) hx hb dL_law_1411 (by decide) ?_
  refine lv_iadd hx hb dL_law_1412 ?_
  refine tp_i (v := 3) (by decide) ?_
  refine va_sld hx hb hX hbl hbA hS (by unfold vp_in; decide) dL_law_1413 ?_
  refine tp_i (v := s3) h3 ?_
  refine kc_i (va_runV (As := [.int s1, .int s2, .int s3]) (rest := []) ⟨hx, hb, hml, hown, hB⟩ (c115_X11_gone l D ty H.size x0 (qx 19) (qx 118) (qx 24) s1 s2 s3 (.ref (qx 0)) (.int 0) (.ref (qx 1)) (.ref (qx 35)) (.ref (qx 36)) (.ref (qx 119)) (.ref (qx 42)) (.ref (qx 44)) (.ref (qx 45)) (.ref (qx 50)) (.int (-1)) (.int (-1)) (.int (-1)) (.int (-1)) (.ref (qx 32)) (.int 0) (.int 0) (.int 2) (.int 0) (.int (-1)) (.int 0) (.int 0) (.ref (qx 20)) (.ref (qx 21)) (.ref (qx 22)) (.ref (qx 23)) (.int 0) (.int 0) (.ref (qx 28)) (.ref (qx 117)) (.ref (qx 31)) (.ref (qx 116)) (.int 0) (.ref (qx 25)) (.ref (qx 26)) (.ref (qx 27))) (cwV 3 hB (bw_V mw_884 mw_885 mw_886 mw_216 mw_883) rfl rfl rfl (by decide +kernel) ⟨Nat.le_of_ble_eq_true rfl, Nat.le_of_ble_eq_true rfl⟩) (kp_V hK hP hD [0, 20, 119, 25] (by decide) rfl 0 rfl rfl rfl) rfl rfl hl.1 rfl (lv_room (Nat.le_of_ble_eq_true rfl)) dL_law_1414 ⟨Nat.le_of_ble_eq_true rfl, Nat.le_of_ble_eq_true rfl⟩) hP hD hS hA [0, 20, 119, 25] [122, 123, 124, 125, 126, 127, 128, 129, 130, 131, 132, 133, 134, 135, 136, 137, 138, 139, 140, 141, 142, 143, 144, 145, 146] (wr := [(m0, .inr (12, [.int 0, .ref (qm 23), .ref (qm 0), .ref (qm 1), .ref (qm 2), .int 0, .ref (qm 3), .int 0, .int 0, .int 0, .int 0, .int 0, .int 0, .int (-1), .ref (qm 4), .ref (qm 5), .ref (qm 6), .ref (qm 7), .ref (qm 8), .ref (qm 9), .ref (qm 10), .ref (qm 11), .ref (qm 12), .int 0, .ref (qm 13), .int 0, .ref (qm 14), .int 0, .ref (qm 15), .ref (qm 16), .ref (qm 17), .int 0, .ref (qm 18), .int 0, .ref (qm 19), .ref (qm 20), .ref (qm 21), .ref (qm 22)])), ((qm 0), .inl (ty 1, 912, .inl (kf 0))), ((qm 1), .inl (ty 3, 3, .inl (kf 0))), ((qm 2), .inl (ty 0, 800, .inl (kf 0))), ((qm 3), .inl (ty 1, 5, .inl (kf 0))), ((qm 4), .inl (ty 1, 304, .inl (kf 0))), ((qm 5), .inl (ty 3, 28, .inl (kf 0))), ((qm 6), .inl (ty 1, 28, .inl (kf 0))), ((qm 7), .inl (ty 1, 256, .inl (kf 0))), ((qm 8), .inl (ty 1, 256, .inl (kf 0))), ((qm 9), .inl (ty 3, 16, .inl (kf 0))), ((qm 10), .inl (ty 1, 28, .inl (kf 0))), ((qm 11), .inl (ty 1, 28, .inl (kf 0))), ((qm 12), .inl (ty 1, 44, .inl (kf 0))), ((qm 13), .inl (ty 1, 2, .inl (kf 0))), ((qm 14), .inl (ty 1, 9, .inl (kf 0))), ((qm 15), .inl (ty 1, 512, .inl (kf 0))), ((qm 16), .inl (ty 1, 512, .inl (kf 0))), ((qm 17), .inl (ty 1, 16, .inl (kf 0))), ((qm 18), .inl (ty 1, 2, .inl (kf 0))), ((qm 19), .inl (ty 1, 4, .inl (upd (upd (upd (upd (kf 0) 0 (-1)) 1 (-1)) 2 (-1)) 3 (-1)))), ((qm 20), .inl (ty 1, 4, .inl (kf 0))), ((qm 21), .inl (ty 2, 240, .inr (.inl (kj 0)))), ((qm 22), .inl (ty 2, 60, .inr (.inl (kj 0)))), ((qm 23), .inl (ty 1, 304, .inl (upd (upd (kf 0) 1 2) 4 (-1))))]) rfl rfl (by decide) (by decide) (fun r u H locs w1 hP hD hS => ?_)
  obtain ⟨rfl, rfl⟩ := w1
  have hP : va_P D vwCl [(m0, .inr (12, [.int 0, .ref (qm 23), .ref (qm 0), .ref (qm 1), .ref (qm 2), .int 0, .ref (qm 3), .int 0, .int 0, .int 0, .int 0, .int 0, .int 0, .int (-1), .ref (qm 4), .ref (qm 5), .ref (qm 6), .ref (qm 7), .ref (qm 8), .ref (qm 9), .ref (qm 10), .ref (qm 11), .ref (qm 12), .int 0, .ref (qm 13), .int 0, .ref (qm 14), .int 0, .ref (qm 15), .ref (qm 16), .ref (qm 17), .int 0, .ref (qm 18), .int 0, .ref (qm 19), .ref (qm 20), .ref (qm 21), .ref (qm 22)])), ((qm 0), .inl (ty 1, 912, .inl (kf 0))), ((qm 1), .inl (ty 3, 3, .inl (kf 0))), ((qm 2), .inl (ty 0, 800, .inl (kf 0))), ((qm 3), .inl (ty 1, 5, .inl (kf 0))), ((qm 4), .inl (ty 1, 304, .inl (kf 0))), ((qm 5), .inl (ty 3, 28, .inl (kf 0))), ((qm 6), .inl (ty 1, 28, .inl (kf 0))), ((qm 7), .inl (ty 1, 256, .inl (kf 0))), ((qm 8), .inl (ty 1, 256, .inl (kf 0))), ((qm 9), .inl (ty 3, 16, .inl (kf 0))), ((qm 10), .inl (ty 1, 28, .inl (kf 0))), ((qm 11), .inl (ty 1, 28, .inl (kf 0))), ((qm 12), .inl (ty 1, 44, .inl (kf 0))), ((qm 13), .inl (ty 1, 2, .inl (kf 0))), ((qm 14), .inl (ty 1, 9, .inl (kf 0))), ((qm 15), .inl (ty 1, 512, .inl (kf 0))), ((qm 16), .inl (ty 1, 512, .inl (kf 0))), ((qm 17), .inl (ty 1, 16, .inl (kf 0))), ((qm 18), .inl (ty 1, 2, .inl (kf 0))), ((qm 19), .inl (ty 1, 4, .inl (upd (upd (upd (upd (kf 0) 0 (-1)) 1 (-1)) 2 (-1)) 3 (-1)))), ((qm 20), .inl (ty 1, 4, .inl (kf 0))), ((qm 21), .inl (ty 2, 240, .inr (.inl (kj 0)))), ((qm 22), .inl (ty 2, 60, .inr (.inl (kj 0)))), ((qm 23), .inl (ty 1, 304, .inl (upd (upd (kf 0) 1 2) 4 (-1))))] H := hP
  have hD : va_D (fun q : Nat => s.heap.size ≤ q) [(m0, .inr (12, [.int 0, .ref (qm 23), .ref (qm 0), .ref (qm 1), .ref (qm 2), .int 0, .ref (qm 3), .int 0, .int 0, .int 0, .int 0, .int 0, .int 0, .int (-1), .ref (qm 4), .ref (qm 5), .ref (qm 6), .ref (qm 7), .ref (qm 8), .ref (qm 9), .ref (qm 10), .ref (qm 11), .ref (qm 12), .int 0, .ref (qm 13), .int 0, .ref (qm 14), .int 0, .ref (qm 15), .ref (qm 16), .ref (qm 17), .int 0, .ref (qm 18), .int 0, .ref (qm 19), .ref (qm 20), .ref (qm 21), .ref (qm 22)])), ((qm 0), .inl (ty 1, 912, .inl (kf 0))), ((qm 1), .inl (ty 3, 3, .inl (kf 0))), ((qm 2), .inl (ty 0, 800, .inl (kf 0))), ((qm 3), .inl (ty 1, 5, .inl (kf 0))), ((qm 4), .inl (ty 1, 304, .inl (kf 0))), ((qm 5), .inl (ty 3, 28, .inl (kf 0))), ((qm 6), .inl (ty 1, 28, .inl (kf 0))), ((qm 7), .inl (ty 1, 256, .inl (kf 0))), ((qm 8), .inl (ty 1, 256, .inl (kf 0))), ((qm 9), .inl (ty 3, 16, .inl (kf 0))), ((qm 10), .inl (ty 1, 28, .inl (kf 0))), ((qm 11), .inl (ty 1, 28, .inl (kf 0))), ((qm 12), .inl (ty 1, 44, .inl (kf 0))), ((qm 13), .inl (ty 1, 2, .inl (kf 0))), ((qm 14), .inl (ty 1, 9, .inl (kf 0))), ((qm 15), .inl (ty 1, 512, .inl (kf 0))), ((qm 16), .inl (ty 1, 512, .inl (kf 0))), ((qm 17), .inl (ty 1, 16, .inl (kf 0))), ((qm 18), .inl (ty 1, 2, .inl (kf 0))), ((qm 19), .inl (ty 1, 4, .inl (upd (upd (upd (upd (kf 0) 0 (-1)) 1 (-1)) 2 (-1)) 3 (-1)))), ((qm 20), .inl (ty 1, 4, .inl (kf 0))), ((qm 21), .inl (ty 2, 240, .inr (.inl (kj 0)))), ((qm 22), .inl (ty 2, 60, .inr (.inl (kj 0)))), ((qm 23), .inl (ty 1, 304, .inl (upd (upd (kf 0) 1 2) 4 (-1))))] := hD
  refine lv_aload_n hx hb dL_law_1417 rfl (lv_at hl 1 rfl) ?_
  refine lv_aload_n hx hb dL_law_1418 rfl (lv_at hl 3 rfl) ?_
  refine lv_iload_n hx hb dL_law_1419 rfl (lv_at hl 0 rfl) ?_
  refine lv_iconst (v := 1) hx hb dL_law_1420 (by decide) ?_
  refine lv_iadd hx hb dL_law_1421 ?_
  refine tp_i (v := 1) (by decide) ?_
  refine va_sld hx hb hX hbl hbA hS (by unfold vp_in; decide) dL_law_1422 ?_
  refine tp_i (v := s1) h1 ?_
  refine lv_aload_n hx hb dL_law_1423 rfl (lv_at hl 3 rfl) ?_
  refine lv_iload_n hx hb dL_law_1424 rfl (lv_at hl 0 rfl) ?_
  refine lv_iconst (v := 2) hx hb dL_law_1425 (by decide) ?_
  refine lv_iadd hx hb dL_law_1426 ?_
  refine tp_i (v := 2) (by decide) ?_
  refine va_sld hx hb hX hbl hbA hS (by unfold vp_in; decide) dL_law_1427 ?_
  refine tp_i (v := s2) h2 ?_
  refine lv_aload_n hx hb dL_law_1428 rfl (lv_at hl 3 rfl) ?_
  refine lv_iload_n hx hb dL_law_1429 rfl (lv_at hl 0 rfl) ?_
  refine lv_iconst (v := 3) hx hb dL_law_1430 (by decide) ?_
  refine lv_iadd hx hb dL_law_1431 ?_
  refine tp_i (v := 3) (by decide) ?_
  refine va_sld hx hb hX hbl hbA hS (by unfold vp_in; decide) dL_law_1432 ?_
  refine tp_i (v := s3) h3 ?_
  refine kc_i (va_runV (As := [.int s1, .int s2, .int s3]) (rest := [.int (-2)]) ⟨hx, hb, hml, hown, hB⟩ (c211_X12_gone l D ty H.size m0 (qm 23) s1 s2 s3 (.int 0) (.ref (qm 0)) (.ref (qm 1)) (.ref (qm 2)) (.int 0) (.ref (qm 3)) (.int 0) (.int 0) (.int 0) (.int 0) (.int 0) (.int 0) (.int (-1)) (.ref (qm 4)) (.ref (qm 5)) (.ref (qm 6)) (.ref (qm 7)) (.ref (qm 8)) (.ref (qm 9)) (.ref (qm 10)) (.ref (qm 11)) (.ref (qm 12)) (.int 0) (.ref (qm 13)) (.int 0) (.ref (qm 14)) (.int 0) (.ref (qm 15)) (.ref (qm 16)) (.ref (qm 17)) (.int 0) (.ref (qm 18)) (.int 0) (.ref (qm 19)) (.ref (qm 20)) (.ref (qm 21)) (.ref (qm 22))) (cwV 3 hB (bw_V mw_888 mw_889 mw_890 mw_211 mw_887) rfl rfl rfl (by decide +kernel) ⟨Nat.le_of_ble_eq_true rfl, Nat.le_of_ble_eq_true rfl⟩) (kp_V hK hP hD [0, 24] (by decide) rfl 0 rfl rfl rfl) rfl rfl hl.1 rfl (lv_room (Nat.le_of_ble_eq_true rfl)) dL_law_1433 ⟨Nat.le_of_ble_eq_true rfl, Nat.le_of_ble_eq_true rfl⟩) hP hD hS hA [0, 24] [] (wr := []) rfl rfl (by decide) (by decide) (fun r u H locs w2 hP hD hS => ?_)
  obtain ⟨rfl, rfl⟩ := w2
  have hP : va_P D vwCl [] H := hP
  have hD : va_D (fun q : Nat => s.heap.size ≤ q) [] := hD
  refine lv_icmp_eq (tgt := 1933) hx hb dL_law_1436 (by decide) (fun _ => ?_) (fun h9 => absurd (by decide) h9)
  refine lv_iinc (v := 6) (lv' := [(3, .int 6), (2, .ref m0), (1, .ref x0), (0, .ref b)]) hx hb dL_law_1933 hl (k := 0) rfl (by decide) (by decide) rfl (fun ls hl => ?_)
  refine lv_goto (tgt := 18) hx hb dL_law_1936 (by decide) ?_
  exact law_end l (Nat.le_refl 6) C0 hS (lv_sub hl [0, 3] rfl)

set_option maxHeartbeats 4000000 in
set_option maxRecDepth 100000 in
theorem br_41 {p : Program} {e : Env} {s : State} {m : MethodId} {below : List Frame} {meth : Method} {c : Code} (l : Launch) {b : Nat} {xs : Nat → Int32} (C0 : lw_At p s m meth c b 6 xs) (D : va_G) (ty : Nat → ClassId) (hK : kK D ty s) (x0 m0 : Nat) (qx qm : Nat → Nat) {H : Heap} {locs : List Loc} {ls : Array Slot} (hP : va_P D vwCl (lawW ty x0 m0 qx qm) H) (hD : va_D (fun q : Nat => s.heap.size ≤ q) (lawW ty x0 m0 qx qm)) (hS : va_S (fun q : Nat => s.heap.size ≤ q) s.heap H locs) (hl : lv_has ls 4 [(3, .int 0), (2, .ref m0), (1, .ref x0), (0, .ref b)]) :
    W p l e room_1 s m #[Value.ref b] below meth c H locs 200 10000 (lw_Z below #[Value.ref b] s) (F0 m 1441 ls []) := by
  obtain ⟨hx, hb, hr, hml, hown0, hts, hX, hbl, hlocks, hgv⟩ := id C0
  have hown : s.vm.findClass RL = some m.cls := hown0
  have hB : ∀ w ∈ bW, w.before #[Value.ref b] s = true := fun w h => hts w (bW_lw h)
  have hA : ∀ q : Nat, s.heap.size ≤ q → (fun q : Nat => s.heap.size ≤ q) q := fun _ h => h
  have hbA : ¬ (fun q : Nat => s.heap.size ≤ q) b := Nat.not_le.mpr hbl
  obtain ⟨s1, h1⟩ : ∃ y, xs 1 = y := ⟨_, rfl⟩
  obtain ⟨s2, h2⟩ : ∃ y, xs 2 = y := ⟨_, rfl⟩
  obtain ⟨s3, h3⟩ : ∃ y, xs 3 = y := ⟨_, rfl⟩
  obtain ⟨s4, h4⟩ : ∃ y, xs 4 = y := ⟨_, rfl⟩
  obtain ⟨s5, h5⟩ : ∃ y, xs 5 = y := ⟨_, rfl⟩
  refine lv_aload_n hx hb dL_law_1441 rfl (lv_at hl 2 rfl) ?_
  refine lv_aload_n hx hb dL_law_1442 rfl (lv_at hl 3 rfl) ?_
  refine lv_iload_n hx hb dL_law_1443 rfl (lv_at hl 0 rfl) ?_
  refine lv_iconst (v := 1) hx hb dL_law_1444 (by decide) ?_
  refine lv_iadd hx hb dL_law_1445 ?_
  refine tp_i (v := 1) (by decide) ?_
  refine va_sld hx hb hX hbl hbA hS (by unfold vp_in; decide) dL_law_1446 ?_
  refine tp_i (v := s1) h1 ?_
  refine lv_aload_n hx hb dL_law_1447 rfl (lv_at hl 3 rfl) ?_
  refine lv_iload_n hx hb dL_law_1448 rfl (lv_at hl 0 rfl) ?_
  refine lv_iconst (v := 2) hx hb dL_law_1449 (by decide) ?_
  refine lv_iadd hx hb dL_law_1450 ?_
  refine tp_i (v := 2) (by decide) ?_
  refine va_sld hx hb hX hbl hbA hS (by unfold vp_in; decide) dL_law_1451 ?_
  refine tp_i (v := s2) h2 ?_
  refine kc_i (va_runV (As := [.int s1, .int s2]) (rest := []) ⟨hx, hb, hml, hown, hB⟩ (c116_X11_load l D ty H.size x0 (qx 19) (qx 118) s1 s2 (.ref (qx 0)) (.int 0) (.ref (qx 1)) (.ref (qx 35)) (.ref (qx 36)) (.ref (qx 119)) (.ref (qx 42)) (.ref (qx 44)) (.ref (qx 45)) (.ref (qx 50)) (.int (-1)) (.int (-1)) (.int (-1)) (.int (-1)) (.ref (qx 32)) (.int 0) (.int 0) (.int 2) (.int (-1)) (.int 0) (.int 0) (.ref (qx 20)) (.ref (qx 21)) (.ref (qx 22)) (.ref (qx 23)) (.int 0) (.int 0) (.ref (qx 24)) (.ref (qx 28)) (.ref (qx 117)) (.ref (qx 31)) (.ref (qx 116)) (.int 0)) (cwV 2 hB (bw_V mw_892 mw_893 mw_894 mw_216 mw_891) rfl rfl rfl (by decide +kernel) ⟨Nat.le_of_ble_eq_true rfl, Nat.le_of_ble_eq_true rfl⟩) (kp_V hK hP hD [0, 20, 119] (by decide) rfl 0 rfl rfl rfl) rfl rfl hl.1 rfl (lv_room (Nat.le_of_ble_eq_true rfl)) dL_law_1452 ⟨Nat.le_of_ble_eq_true rfl, Nat.le_of_ble_eq_true rfl⟩) hP hD hS hA [0, 20, 119] [122, 123, 124, 125, 126, 127, 128, 129, 130, 131, 132, 133, 134, 135, 136, 137, 138, 139, 140, 141, 142, 143, 144, 145, 146] (wr := [(m0, .inr (12, [.int 0, .ref (qm 23), .ref (qm 0), .ref (qm 1), .ref (qm 2), .int 0, .ref (qm 3), .int 0, .int 0, .int 0, .int 0, .int 0, .int 0, .int (-1), .ref (qm 4), .ref (qm 5), .ref (qm 6), .ref (qm 7), .ref (qm 8), .ref (qm 9), .ref (qm 10), .ref (qm 11), .ref (qm 12), .int 0, .ref (qm 13), .int 0, .ref (qm 14), .int 0, .ref (qm 15), .ref (qm 16), .ref (qm 17), .int 0, .ref (qm 18), .int 0, .ref (qm 19), .ref (qm 20), .ref (qm 21), .ref (qm 22)])), ((qm 0), .inl (ty 1, 912, .inl (kf 0))), ((qm 1), .inl (ty 3, 3, .inl (kf 0))), ((qm 2), .inl (ty 0, 800, .inl (kf 0))), ((qm 3), .inl (ty 1, 5, .inl (kf 0))), ((qm 4), .inl (ty 1, 304, .inl (kf 0))), ((qm 5), .inl (ty 3, 28, .inl (kf 0))), ((qm 6), .inl (ty 1, 28, .inl (kf 0))), ((qm 7), .inl (ty 1, 256, .inl (kf 0))), ((qm 8), .inl (ty 1, 256, .inl (kf 0))), ((qm 9), .inl (ty 3, 16, .inl (kf 0))), ((qm 10), .inl (ty 1, 28, .inl (kf 0))), ((qm 11), .inl (ty 1, 28, .inl (kf 0))), ((qm 12), .inl (ty 1, 44, .inl (kf 0))), ((qm 13), .inl (ty 1, 2, .inl (kf 0))), ((qm 14), .inl (ty 1, 9, .inl (kf 0))), ((qm 15), .inl (ty 1, 512, .inl (kf 0))), ((qm 16), .inl (ty 1, 512, .inl (kf 0))), ((qm 17), .inl (ty 1, 16, .inl (kf 0))), ((qm 18), .inl (ty 1, 2, .inl (kf 0))), ((qm 19), .inl (ty 1, 4, .inl (upd (upd (upd (upd (kf 0) 0 (-1)) 1 (-1)) 2 (-1)) 3 (-1)))), ((qm 20), .inl (ty 1, 4, .inl (kf 0))), ((qm 21), .inl (ty 2, 240, .inr (.inl (kj 0)))), ((qm 22), .inl (ty 2, 60, .inr (.inl (kj 0)))), ((qm 23), .inl (ty 1, 304, .inl (upd (upd (kf 0) 1 2) 4 (-1))))]) rfl rfl (by decide) (by decide) (fun r u H locs w1 hP hD hS => ?_)
  obtain ⟨rfl, rfl⟩ := w1
  have hP : va_P D vwCl [(m0, .inr (12, [.int 0, .ref (qm 23), .ref (qm 0), .ref (qm 1), .ref (qm 2), .int 0, .ref (qm 3), .int 0, .int 0, .int 0, .int 0, .int 0, .int 0, .int (-1), .ref (qm 4), .ref (qm 5), .ref (qm 6), .ref (qm 7), .ref (qm 8), .ref (qm 9), .ref (qm 10), .ref (qm 11), .ref (qm 12), .int 0, .ref (qm 13), .int 0, .ref (qm 14), .int 0, .ref (qm 15), .ref (qm 16), .ref (qm 17), .int 0, .ref (qm 18), .int 0, .ref (qm 19), .ref (qm 20), .ref (qm 21), .ref (qm 22)])), ((qm 0), .inl (ty 1, 912, .inl (kf 0))), ((qm 1), .inl (ty 3, 3, .inl (kf 0))), ((qm 2), .inl (ty 0, 800, .inl (kf 0))), ((qm 3), .inl (ty 1, 5, .inl (kf 0))), ((qm 4), .inl (ty 1, 304, .inl (kf 0))), ((qm 5), .inl (ty 3, 28, .inl (kf 0))), ((qm 6), .inl (ty 1, 28, .inl (kf 0))), ((qm 7), .inl (ty 1, 256, .inl (kf 0))), ((qm 8), .inl (ty 1, 256, .inl (kf 0))), ((qm 9), .inl (ty 3, 16, .inl (kf 0))), ((qm 10), .inl (ty 1, 28, .inl (kf 0))), ((qm 11), .inl (ty 1, 28, .inl (kf 0))), ((qm 12), .inl (ty 1, 44, .inl (kf 0))), ((qm 13), .inl (ty 1, 2, .inl (kf 0))), ((qm 14), .inl (ty 1, 9, .inl (kf 0))), ((qm 15), .inl (ty 1, 512, .inl (kf 0))), ((qm 16), .inl (ty 1, 512, .inl (kf 0))), ((qm 17), .inl (ty 1, 16, .inl (kf 0))), ((qm 18), .inl (ty 1, 2, .inl (kf 0))), ((qm 19), .inl (ty 1, 4, .inl (upd (upd (upd (upd (kf 0) 0 (-1)) 1 (-1)) 2 (-1)) 3 (-1)))), ((qm 20), .inl (ty 1, 4, .inl (kf 0))), ((qm 21), .inl (ty 2, 240, .inr (.inl (kj 0)))), ((qm 22), .inl (ty 2, 60, .inr (.inl (kj 0)))), ((qm 23), .inl (ty 1, 304, .inl (upd (upd (kf 0) 1 2) 4 (-1))))] H := hP
  have hD : va_D (fun q : Nat => s.heap.size ≤ q) [(m0, .inr (12, [.int 0, .ref (qm 23), .ref (qm 0), .ref (qm 1), .ref (qm 2), .int 0, .ref (qm 3), .int 0, .int 0, .int 0, .int 0, .int 0, .int 0, .int (-1), .ref (qm 4), .ref (qm 5), .ref (qm 6), .ref (qm 7), .ref (qm 8), .ref (qm 9), .ref (qm 10), .ref (qm 11), .ref (qm 12), .int 0, .ref (qm 13), .int 0, .ref (qm 14), .int 0, .ref (qm 15), .ref (qm 16), .ref (qm 17), .int 0, .ref (qm 18), .int 0, .ref (qm 19), .ref (qm 20), .ref (qm 21), .ref (qm 22)])), ((qm 0), .inl (ty 1, 912, .inl (kf 0))), ((qm 1), .inl (ty 3, 3, .inl (kf 0))), ((qm 2), .inl (ty 0, 800, .inl (kf 0))), ((qm 3), .inl (ty 1, 5, .inl (kf 0))), ((qm 4), .inl (ty 1, 304, .inl (kf 0))), ((qm 5), .inl (ty 3, 28, .inl (kf 0))), ((qm 6), .inl (ty 1, 28, .inl (kf 0))), ((qm 7), .inl (ty 1, 256, .inl (kf 0))), ((qm 8), .inl (ty 1, 256, .inl (kf 0))), ((qm 9), .inl (ty 3, 16, .inl (kf 0))), ((qm 10), .inl (ty 1, 28, .inl (kf 0))), ((qm 11), .inl (ty 1, 28, .inl (kf 0))), ((qm 12), .inl (ty 1, 44, .inl (kf 0))), ((qm 13), .inl (ty 1, 2, .inl (kf 0))), ((qm 14), .inl (ty 1, 9, .inl (kf 0))), ((qm 15), .inl (ty 1, 512, .inl (kf 0))), ((qm 16), .inl (ty 1, 512, .inl (kf 0))), ((qm 17), .inl (ty 1, 16, .inl (kf 0))), ((qm 18), .inl (ty 1, 2, .inl (kf 0))), ((qm 19), .inl (ty 1, 4, .inl (upd (upd (upd (upd (kf 0) 0 (-1)) 1 (-1)) 2 (-1)) 3 (-1)))), ((qm 20), .inl (ty 1, 4, .inl (kf 0))), ((qm 21), .inl (ty 2, 240, .inr (.inl (kj 0)))), ((qm 22), .inl (ty 2, 60, .inr (.inl (kj 0)))), ((qm 23), .inl (ty 1, 304, .inl (upd (upd (kf 0) 1 2) 4 (-1))))] := hD
  refine lv_aload_n hx hb dL_law_1455 rfl (lv_at hl 1 rfl) ?_
  refine lv_aload_n hx hb dL_law_1456 rfl (lv_at hl 3 rfl) ?_
  refine lv_iload_n hx hb dL_law_1457 rfl (lv_at hl 0 rfl) ?_
  refine lv_iconst (v := 1) hx hb dL_law_1458 (by decide) ?_
  refine lv_iadd hx hb dL_law_1459 ?_
  refine tp_i (v := 1) (by decide) ?_
  refine va_sld hx hb hX hbl hbA hS (by unfold vp_in; decide) dL_law_1460 ?_
  refine tp_i (v := s1) h1 ?_
  refine lv_aload_n hx hb dL_law_1461 rfl (lv_at hl 3 rfl) ?_
  refine lv_iload_n hx hb dL_law_1462 rfl (lv_at hl 0 rfl) ?_
  refine lv_iconst (v := 2) hx hb dL_law_1463 (by decide) ?_
  refine lv_iadd hx hb dL_law_1464 ?_
  refine tp_i (v := 2) (by decide) ?_
  refine va_sld hx hb hX hbl hbA hS (by unfold vp_in; decide) dL_law_1465 ?_
  refine tp_i (v := s2) h2 ?_
  refine kc_i (va_runV (As := [.int s1, .int s2]) (rest := [.int (-2)]) ⟨hx, hb, hml, hown, hB⟩ (c212_X12_load l D ty H.size m0 (qm 23) s1 s2 (.int 0) (.ref (qm 0)) (.ref (qm 1)) (.ref (qm 2)) (.int 0) (.ref (qm 3)) (.int 0) (.int 0) (.int 0) (.int 0) (.int 0) (.int 0) (.int (-1)) (.ref (qm 4)) (.ref (qm 5)) (.ref (qm 6)) (.ref (qm 7)) (.ref (qm 8)) (.ref (qm 9)) (.ref (qm 10)) (.ref (qm 11)) (.ref (qm 12)) (.int 0) (.ref (qm 13)) (.int 0) (.ref (qm 14)) (.int 0) (.ref (qm 15)) (.ref (qm 16)) (.ref (qm 17)) (.int 0) (.ref (qm 18)) (.int 0) (.ref (qm 19)) (.ref (qm 20)) (.ref (qm 21)) (.ref (qm 22))) (cwV 2 hB (bw_V mw_896 mw_897 mw_898 mw_211 mw_895) rfl rfl rfl (by decide +kernel) ⟨Nat.le_of_ble_eq_true rfl, Nat.le_of_ble_eq_true rfl⟩) (kp_V hK hP hD [0, 24] (by decide) rfl 0 rfl rfl rfl) rfl rfl hl.1 rfl (lv_room (Nat.le_of_ble_eq_true rfl)) dL_law_1466 ⟨Nat.le_of_ble_eq_true rfl, Nat.le_of_ble_eq_true rfl⟩) hP hD hS hA [0, 24] [] (wr := []) rfl rfl (by decide) (by decide) (fun r u H locs w2 hP hD hS => ?_)
  obtain ⟨rfl, rfl⟩ := w2
  have hP : va_P D vwCl [] H := hP
  have hD : va_D (fun q : Nat => s.heap.size ≤ q) [] := hD
  refine lv_icmp_eq (tgt := 1933) hx hb dL_law_1469 (by decide) (fun _ => ?_) (fun h9 => absurd (by decide) h9)
  refine lv_iinc (v := 6) (lv' := [(3, .int 6), (2, .ref m0), (1, .ref x0), (0, .ref b)]) hx hb dL_law_1933 hl (k := 0) rfl (by decide) (by decide) rfl (fun ls hl => ?_)
  refine lv_goto (tgt := 18) hx hb dL_law_1936 (by decide) ?_
  exact law_end l (Nat.le_refl 6) C0 hS (lv_sub hl [0, 3] rfl)

set_option maxHeartbeats 4000000 in
set_option maxRecDepth 100000 in
theorem br_42 {p : Program} {e : Env} {s : State} {m : MethodId} {below : List Frame} {meth : Method} {c : Code} (l : Launch) {b : Nat} {xs : Nat → Int32} (C0 : lw_At p s m meth c b 6 xs) (D : va_G) (ty : Nat → ClassId) (hK : kK D ty s) (x0 m0 : Nat) (qx qm : Nat → Nat) {H : Heap} {locs : List Loc} {ls : Array Slot} (hP : va_P D vwCl (lawW ty x0 m0 qx qm) H) (hD : va_D (fun q : Nat => s.heap.size ≤ q) (lawW ty x0 m0 qx qm)) (hS : va_S (fun q : Nat => s.heap.size ≤ q) s.heap H locs) (hl : lv_has ls 4 [(3, .int 0), (2, .ref m0), (1, .ref x0), (0, .ref b)]) :
    W p l e room_1 s m #[Value.ref b] below meth c H locs 200 10000 (lw_Z below #[Value.ref b] s) (F0 m 1474 ls []) := by
  obtain ⟨hx, hb, hr, hml, hown0, hts, hX, hbl, hlocks, hgv⟩ := id C0
  have hown : s.vm.findClass RL = some m.cls := hown0
  have hB : ∀ w ∈ bW, w.before #[Value.ref b] s = true := fun w h => hts w (bW_lw h)
  have hA : ∀ q : Nat, s.heap.size ≤ q → (fun q : Nat => s.heap.size ≤ q) q := fun _ h => h
  have hbA : ¬ (fun q : Nat => s.heap.size ≤ q) b := Nat.not_le.mpr hbl
  obtain ⟨s1, h1⟩ : ∃ y, xs 1 = y := ⟨_, rfl⟩
  obtain ⟨s2, h2⟩ : ∃ y, xs 2 = y := ⟨_, rfl⟩
  obtain ⟨s3, h3⟩ : ∃ y, xs 3 = y := ⟨_, rfl⟩
  obtain ⟨s4, h4⟩ : ∃ y, xs 4 = y := ⟨_, rfl⟩
  obtain ⟨s5, h5⟩ : ∃ y, xs 5 = y := ⟨_, rfl⟩
  refine lv_aload_n hx hb dL_law_1474 rfl (lv_at hl 2 rfl) ?_
  refine lv_aload_n hx hb dL_law_1475 rfl (lv_at hl 3 rfl) ?_
  refine lv_iload_n hx hb dL_law_1476 rfl (lv_at hl 0 rfl) ?_
  refine lv_iconst (v := 1) hx hb dL_law_1477 (by decide) ?_
  refine lv_iadd hx hb dL_law_1478 ?_
  refine tp_i (v := 1) (by decide) ?_
  refine va_sld hx hb hX hbl hbA hS (by unfold vp_in; decide) dL_law_1479 ?_
  refine tp_i (v := s1) h1 ?_
  refine kc_i (va_runV (As := [.int s1]) (rest := []) ⟨hx, hb, hml, hown, hB⟩ (c117_X11_busiest l D ty H.size x0 (qx 19) (qx 32) (qx 119) (qx 38) (qx 118) (qx 24) s1 (.ref (qx 0)) (.int 0) (.ref (qx 1)) (.ref (qx 35)) (.ref (qx 36)) (.ref (qx 42)) (.ref (qx 44)) (.ref (qx 45)) (.ref (qx 50)) (.int (-1)) (.int (-1)) (.int (-1)) (.int (-1)) (.int 0) (qx 33) (qx 34) (.ref (qx 120)) (.ref (qx 37)) (.ref (qx 39)) (.ref (qx 40)) (.ref (qx 41)) (kf 0) (.int 0) (.int 2) (.int (-1)) (.int 0) (.int 0) (.ref (qx 20)) (.ref (qx 21)) (.ref (qx 22)) (.ref (qx 23)) (.int 0) (.int 0) (.ref (qx 28)) (.ref (qx 117)) (.ref (qx 31)) (.ref (qx 116)) (.int 0) (.ref (qx 25)) (.ref (qx 26)) (.ref (qx 27))) (cwV 1 hB (bw_V mw_900 mw_901 mw_902 mw_216 mw_899) rfl rfl rfl (by decide +kernel) ⟨Nat.le_of_ble_eq_true rfl, Nat.le_of_ble_eq_true rfl⟩) (kp_V hK hP hD [0, 20, 33, 120, 39, 119, 25] (by decide) rfl 0 rfl rfl rfl) rfl rfl hl.1 rfl (lv_room (Nat.le_of_ble_eq_true rfl)) dL_law_1480 ⟨Nat.le_of_ble_eq_true rfl, Nat.le_of_ble_eq_true rfl⟩) hP hD hS hA [0, 20, 33, 120, 39, 119, 25] [122, 123, 124, 125, 126, 127, 128, 129, 130, 131, 132, 133, 134, 135, 136, 137, 138, 139, 140, 141, 142, 143, 144, 145, 146] (wr := [(m0, .inr (12, [.int 0, .ref (qm 23), .ref (qm 0), .ref (qm 1), .ref (qm 2), .int 0, .ref (qm 3), .int 0, .int 0, .int 0, .int 0, .int 0, .int 0, .int (-1), .ref (qm 4), .ref (qm 5), .ref (qm 6), .ref (qm 7), .ref (qm 8), .ref (qm 9), .ref (qm 10), .ref (qm 11), .ref (qm 12), .int 0, .ref (qm 13), .int 0, .ref (qm 14), .int 0, .ref (qm 15), .ref (qm 16), .ref (qm 17), .int 0, .ref (qm 18), .int 0, .ref (qm 19), .ref (qm 20), .ref (qm 21), .ref (qm 22)])), ((qm 0), .inl (ty 1, 912, .inl (kf 0))), ((qm 1), .inl (ty 3, 3, .inl (kf 0))), ((qm 2), .inl (ty 0, 800, .inl (kf 0))), ((qm 3), .inl (ty 1, 5, .inl (kf 0))), ((qm 4), .inl (ty 1, 304, .inl (kf 0))), ((qm 5), .inl (ty 3, 28, .inl (kf 0))), ((qm 6), .inl (ty 1, 28, .inl (kf 0))), ((qm 7), .inl (ty 1, 256, .inl (kf 0))), ((qm 8), .inl (ty 1, 256, .inl (kf 0))), ((qm 9), .inl (ty 3, 16, .inl (kf 0))), ((qm 10), .inl (ty 1, 28, .inl (kf 0))), ((qm 11), .inl (ty 1, 28, .inl (kf 0))), ((qm 12), .inl (ty 1, 44, .inl (kf 0))), ((qm 13), .inl (ty 1, 2, .inl (kf 0))), ((qm 14), .inl (ty 1, 9, .inl (kf 0))), ((qm 15), .inl (ty 1, 512, .inl (kf 0))), ((qm 16), .inl (ty 1, 512, .inl (kf 0))), ((qm 17), .inl (ty 1, 16, .inl (kf 0))), ((qm 18), .inl (ty 1, 2, .inl (kf 0))), ((qm 19), .inl (ty 1, 4, .inl (upd (upd (upd (upd (kf 0) 0 (-1)) 1 (-1)) 2 (-1)) 3 (-1)))), ((qm 20), .inl (ty 1, 4, .inl (kf 0))), ((qm 21), .inl (ty 2, 240, .inr (.inl (kj 0)))), ((qm 22), .inl (ty 2, 60, .inr (.inl (kj 0)))), ((qm 23), .inl (ty 1, 304, .inl (upd (upd (kf 0) 1 2) 4 (-1))))]) rfl rfl (by decide) (by decide) (fun r u H locs w1 hP hD hS => ?_)
  rcases w1 with ⟨c2, rfl, rfl⟩ | ⟨c3, rfl, rfl⟩
  · have hP : va_P D vwCl [(m0, .inr (12, [.int 0, .ref (qm 23), .ref (qm 0), .ref (qm 1), .ref (qm 2), .int 0, .ref (qm 3), .int 0, .int 0, .int 0, .int 0, .int 0, .int 0, .int (-1), .ref (qm 4), .ref (qm 5), .ref (qm 6), .ref (qm 7), .ref (qm 8), .ref (qm 9), .ref (qm 10), .ref (qm 11), .ref (qm 12), .int 0, .ref (qm 13), .int 0, .ref (qm 14), .int 0, .ref (qm 15), .ref (qm 16), .ref (qm 17), .int 0, .ref (qm 18), .int 0, .ref (qm 19), .ref (qm 20), .ref (qm 21), .ref (qm 22)])), ((qm 0), .inl (ty 1, 912, .inl (kf 0))), ((qm 1), .inl (ty 3, 3, .inl (kf 0))), ((qm 2), .inl (ty 0, 800, .inl (kf 0))), ((qm 3), .inl (ty 1, 5, .inl (kf 0))), ((qm 4), .inl (ty 1, 304, .inl (kf 0))), ((qm 5), .inl (ty 3, 28, .inl (kf 0))), ((qm 6), .inl (ty 1, 28, .inl (kf 0))), ((qm 7), .inl (ty 1, 256, .inl (kf 0))), ((qm 8), .inl (ty 1, 256, .inl (kf 0))), ((qm 9), .inl (ty 3, 16, .inl (kf 0))), ((qm 10), .inl (ty 1, 28, .inl (kf 0))), ((qm 11), .inl (ty 1, 28, .inl (kf 0))), ((qm 12), .inl (ty 1, 44, .inl (kf 0))), ((qm 13), .inl (ty 1, 2, .inl (kf 0))), ((qm 14), .inl (ty 1, 9, .inl (kf 0))), ((qm 15), .inl (ty 1, 512, .inl (kf 0))), ((qm 16), .inl (ty 1, 512, .inl (kf 0))), ((qm 17), .inl (ty 1, 16, .inl (kf 0))), ((qm 18), .inl (ty 1, 2, .inl (kf 0))), ((qm 19), .inl (ty 1, 4, .inl (upd (upd (upd (upd (kf 0) 0 (-1)) 1 (-1)) 2 (-1)) 3 (-1)))), ((qm 20), .inl (ty 1, 4, .inl (kf 0))), ((qm 21), .inl (ty 2, 240, .inr (.inl (kj 0)))), ((qm 22), .inl (ty 2, 60, .inr (.inl (kj 0)))), ((qm 23), .inl (ty 1, 304, .inl (upd (upd (kf 0) 1 2) 4 (-1))))] H := hP
    have hD : va_D (fun q : Nat => s.heap.size ≤ q) [(m0, .inr (12, [.int 0, .ref (qm 23), .ref (qm 0), .ref (qm 1), .ref (qm 2), .int 0, .ref (qm 3), .int 0, .int 0, .int 0, .int 0, .int 0, .int 0, .int (-1), .ref (qm 4), .ref (qm 5), .ref (qm 6), .ref (qm 7), .ref (qm 8), .ref (qm 9), .ref (qm 10), .ref (qm 11), .ref (qm 12), .int 0, .ref (qm 13), .int 0, .ref (qm 14), .int 0, .ref (qm 15), .ref (qm 16), .ref (qm 17), .int 0, .ref (qm 18), .int 0, .ref (qm 19), .ref (qm 20), .ref (qm 21), .ref (qm 22)])), ((qm 0), .inl (ty 1, 912, .inl (kf 0))), ((qm 1), .inl (ty 3, 3, .inl (kf 0))), ((qm 2), .inl (ty 0, 800, .inl (kf 0))), ((qm 3), .inl (ty 1, 5, .inl (kf 0))), ((qm 4), .inl (ty 1, 304, .inl (kf 0))), ((qm 5), .inl (ty 3, 28, .inl (kf 0))), ((qm 6), .inl (ty 1, 28, .inl (kf 0))), ((qm 7), .inl (ty 1, 256, .inl (kf 0))), ((qm 8), .inl (ty 1, 256, .inl (kf 0))), ((qm 9), .inl (ty 3, 16, .inl (kf 0))), ((qm 10), .inl (ty 1, 28, .inl (kf 0))), ((qm 11), .inl (ty 1, 28, .inl (kf 0))), ((qm 12), .inl (ty 1, 44, .inl (kf 0))), ((qm 13), .inl (ty 1, 2, .inl (kf 0))), ((qm 14), .inl (ty 1, 9, .inl (kf 0))), ((qm 15), .inl (ty 1, 512, .inl (kf 0))), ((qm 16), .inl (ty 1, 512, .inl (kf 0))), ((qm 17), .inl (ty 1, 16, .inl (kf 0))), ((qm 18), .inl (ty 1, 2, .inl (kf 0))), ((qm 19), .inl (ty 1, 4, .inl (upd (upd (upd (upd (kf 0) 0 (-1)) 1 (-1)) 2 (-1)) 3 (-1)))), ((qm 20), .inl (ty 1, 4, .inl (kf 0))), ((qm 21), .inl (ty 2, 240, .inr (.inl (kj 0)))), ((qm 22), .inl (ty 2, 60, .inr (.inl (kj 0)))), ((qm 23), .inl (ty 1, 304, .inl (upd (upd (kf 0) 1 2) 4 (-1))))] := hD
    refine lv_aload_n hx hb dL_law_1483 rfl (lv_at hl 1 rfl) ?_
    refine lv_aload_n hx hb dL_law_1484 rfl (lv_at hl 3 rfl) ?_
    refine lv_iload_n hx hb dL_law_1485 rfl (lv_at hl 0 rfl) ?_
    refine lv_iconst (v := 1) hx hb dL_law_1486 (by decide) ?_
    refine lv_iadd hx hb dL_law_1487 ?_
    refine tp_i (v := 1) (by decide) ?_
    refine va_sld hx hb hX hbl hbA hS (by unfold vp_in; decide) dL_law_1488 ?_
    refine tp_i (v := s1) h1 ?_
    refine kc_i (va_runV (As := [.int s1]) (rest := [.int (-2)]) ⟨hx, hb, hml, hown, hB⟩ (c213_X12_busiest l D ty H.size m0 (qm 23) (qm 7) s1 (.int 0) (.ref (qm 0)) (.ref (qm 1)) (.ref (qm 2)) (.int 0) (.ref (qm 3)) (.int 0) (.int 0) (.int 0) (.int 0) (.int 0) (.int 0) (.int (-1)) (.ref (qm 4)) (.ref (qm 5)) (.ref (qm 6)) (.ref (qm 8)) (.ref (qm 9)) (.ref (qm 10)) (.ref (qm 11)) (.ref (qm 12)) (.int 0) (.ref (qm 13)) (.int 0) (.ref (qm 14)) (.int 0) (.ref (qm 15)) (.ref (qm 16)) (.ref (qm 17)) (.int 0) (.ref (qm 18)) (.int 0) (.ref (qm 19)) (.ref (qm 20)) (.ref (qm 21)) (.ref (qm 22)) (kf 0)) (cwV 1 hB (bw_V mw_904 mw_905 mw_906 mw_211 mw_903) rfl rfl rfl (by decide +kernel) ⟨Nat.le_of_ble_eq_true rfl, Nat.le_of_ble_eq_true rfl⟩) (kp_V hK hP hD [0, 24, 8] (by decide) rfl 0 rfl rfl rfl) rfl rfl hl.1 rfl (lv_room (Nat.le_of_ble_eq_true rfl)) dL_law_1489 ⟨Nat.le_of_ble_eq_true rfl, Nat.le_of_ble_eq_true rfl⟩) hP hD hS hA [0, 24, 8] [] (wr := []) rfl rfl (by decide) (by decide) (fun r u H locs w4 hP hD hS => ?_)
    rcases w4 with ⟨c5, rfl, rfl⟩ | ⟨c6, rfl, rfl⟩
    · exact (ps_15 s1 c2 c5).elim
    · have hP : va_P D vwCl [] H := hP
      have hD : va_D (fun q : Nat => s.heap.size ≤ q) [] := hD
      refine lv_icmp_eq (tgt := 1933) hx hb dL_law_1492 (by decide) (fun _ => ?_) (fun h9 => absurd (by decide) h9)
      refine lv_iinc (v := 6) (lv' := [(3, .int 6), (2, .ref m0), (1, .ref x0), (0, .ref b)]) hx hb dL_law_1933 hl (k := 0) rfl (by decide) (by decide) rfl (fun ls hl => ?_)
      refine lv_goto (tgt := 18) hx hb dL_law_1936 (by decide) ?_
      exact law_end l (Nat.le_refl 6) C0 hS (lv_sub hl [0, 3] rfl)
  · have hP : va_P D vwCl [(m0, .inr (12, [.int 0, .ref (qm 23), .ref (qm 0), .ref (qm 1), .ref (qm 2), .int 0, .ref (qm 3), .int 0, .int 0, .int 0, .int 0, .int 0, .int 0, .int (-1), .ref (qm 4), .ref (qm 5), .ref (qm 6), .ref (qm 7), .ref (qm 8), .ref (qm 9), .ref (qm 10), .ref (qm 11), .ref (qm 12), .int 0, .ref (qm 13), .int 0, .ref (qm 14), .int 0, .ref (qm 15), .ref (qm 16), .ref (qm 17), .int 0, .ref (qm 18), .int 0, .ref (qm 19), .ref (qm 20), .ref (qm 21), .ref (qm 22)])), ((qm 0), .inl (ty 1, 912, .inl (kf 0))), ((qm 1), .inl (ty 3, 3, .inl (kf 0))), ((qm 2), .inl (ty 0, 800, .inl (kf 0))), ((qm 3), .inl (ty 1, 5, .inl (kf 0))), ((qm 4), .inl (ty 1, 304, .inl (kf 0))), ((qm 5), .inl (ty 3, 28, .inl (kf 0))), ((qm 6), .inl (ty 1, 28, .inl (kf 0))), ((qm 7), .inl (ty 1, 256, .inl (kf 0))), ((qm 8), .inl (ty 1, 256, .inl (kf 0))), ((qm 9), .inl (ty 3, 16, .inl (kf 0))), ((qm 10), .inl (ty 1, 28, .inl (kf 0))), ((qm 11), .inl (ty 1, 28, .inl (kf 0))), ((qm 12), .inl (ty 1, 44, .inl (kf 0))), ((qm 13), .inl (ty 1, 2, .inl (kf 0))), ((qm 14), .inl (ty 1, 9, .inl (kf 0))), ((qm 15), .inl (ty 1, 512, .inl (kf 0))), ((qm 16), .inl (ty 1, 512, .inl (kf 0))), ((qm 17), .inl (ty 1, 16, .inl (kf 0))), ((qm 18), .inl (ty 1, 2, .inl (kf 0))), ((qm 19), .inl (ty 1, 4, .inl (upd (upd (upd (upd (kf 0) 0 (-1)) 1 (-1)) 2 (-1)) 3 (-1)))), ((qm 20), .inl (ty 1, 4, .inl (kf 0))), ((qm 21), .inl (ty 2, 240, .inr (.inl (kj 0)))), ((qm 22), .inl (ty 2, 60, .inr (.inl (kj 0)))), ((qm 23), .inl (ty 1, 304, .inl (upd (upd (kf 0) 1 2) 4 (-1))))] H := hP
    have hD : va_D (fun q : Nat => s.heap.size ≤ q) [(m0, .inr (12, [.int 0, .ref (qm 23), .ref (qm 0), .ref (qm 1), .ref (qm 2), .int 0, .ref (qm 3), .int 0, .int 0, .int 0, .int 0, .int 0, .int 0, .int (-1), .ref (qm 4), .ref (qm 5), .ref (qm 6), .ref (qm 7), .ref (qm 8), .ref (qm 9), .ref (qm 10), .ref (qm 11), .ref (qm 12), .int 0, .ref (qm 13), .int 0, .ref (qm 14), .int 0, .ref (qm 15), .ref (qm 16), .ref (qm 17), .int 0, .ref (qm 18), .int 0, .ref (qm 19), .ref (qm 20), .ref (qm 21), .ref (qm 22)])), ((qm 0), .inl (ty 1, 912, .inl (kf 0))), ((qm 1), .inl (ty 3, 3, .inl (kf 0))), ((qm 2), .inl (ty 0, 800, .inl (kf 0))), ((qm 3), .inl (ty 1, 5, .inl (kf 0))), ((qm 4), .inl (ty 1, 304, .inl (kf 0))), ((qm 5), .inl (ty 3, 28, .inl (kf 0))), ((qm 6), .inl (ty 1, 28, .inl (kf 0))), ((qm 7), .inl (ty 1, 256, .inl (kf 0))), ((qm 8), .inl (ty 1, 256, .inl (kf 0))), ((qm 9), .inl (ty 3, 16, .inl (kf 0))), ((qm 10), .inl (ty 1, 28, .inl (kf 0))), ((qm 11), .inl (ty 1, 28, .inl (kf 0))), ((qm 12), .inl (ty 1, 44, .inl (kf 0))), ((qm 13), .inl (ty 1, 2, .inl (kf 0))), ((qm 14), .inl (ty 1, 9, .inl (kf 0))), ((qm 15), .inl (ty 1, 512, .inl (kf 0))), ((qm 16), .inl (ty 1, 512, .inl (kf 0))), ((qm 17), .inl (ty 1, 16, .inl (kf 0))), ((qm 18), .inl (ty 1, 2, .inl (kf 0))), ((qm 19), .inl (ty 1, 4, .inl (upd (upd (upd (upd (kf 0) 0 (-1)) 1 (-1)) 2 (-1)) 3 (-1)))), ((qm 20), .inl (ty 1, 4, .inl (kf 0))), ((qm 21), .inl (ty 2, 240, .inr (.inl (kj 0)))), ((qm 22), .inl (ty 2, 60, .inr (.inl (kj 0)))), ((qm 23), .inl (ty 1, 304, .inl (upd (upd (kf 0) 1 2) 4 (-1))))] := hD
    refine lv_aload_n hx hb dL_law_1483 rfl (lv_at hl 1 rfl) ?_
    refine lv_aload_n hx hb dL_law_1484 rfl (lv_at hl 3 rfl) ?_
    refine lv_iload_n hx hb dL_law_1485 rfl (lv_at hl 0 rfl) ?_
    refine lv_iconst (v := 1) hx hb dL_law_1486 (by decide) ?_
    refine lv_iadd hx hb dL_law_1487 ?_
    refine tp_i (v := 1) (by decide) ?_
    refine va_sld hx hb hX hbl hbA hS (by unfold vp_in; decide) dL_law_1488 ?_
    refine tp_i (v := s1) h1 ?_
    refine kc_i (va_runV (As := [.int s1]) (rest := [.int (-1)]) ⟨hx, hb, hml, hown, hB⟩ (c213_X12_busiest l D ty H.size m0 (qm 23) (qm 7) s1 (.int 0) (.ref (qm 0)) (.ref (qm 1)) (.ref (qm 2)) (.int 0) (.ref (qm 3)) (.int 0) (.int 0) (.int 0) (.int 0) (.int 0) (.int 0) (.int (-1)) (.ref (qm 4)) (.ref (qm 5)) (.ref (qm 6)) (.ref (qm 8)) (.ref (qm 9)) (.ref (qm 10)) (.ref (qm 11)) (.ref (qm 12)) (.int 0) (.ref (qm 13)) (.int 0) (.ref (qm 14)) (.int 0) (.ref (qm 15)) (.ref (qm 16)) (.ref (qm 17)) (.int 0) (.ref (qm 18)) (.int 0) (.ref (qm 19)) (.ref (qm 20)) (.ref (qm 21)) (.ref (qm 22)) (kf 0)) (cwV 1 hB (bw_V mw_904 mw_905 mw_906 mw_211 mw_903) rfl rfl rfl (by decide +kernel) ⟨Nat.le_of_ble_eq_true rfl, Nat.le_of_ble_eq_true rfl⟩) (kp_V hK hP hD [0, 24, 8] (by decide) rfl 0 rfl rfl rfl) rfl rfl hl.1 rfl (lv_room (Nat.le_of_ble_eq_true rfl)) dL_law_1489 ⟨Nat.le_of_ble_eq_true rfl, Nat.le_of_ble_eq_true rfl⟩) hP hD hS hA [0, 24, 8] [] (wr := []) rfl rfl (by decide) (by decide) (fun r u H locs w7 hP hD hS => ?_)
    rcases w7 with ⟨c8, rfl, rfl⟩ | ⟨c9, rfl, rfl⟩
    · have hP : va_P D vwCl [] H := hP
      have hD : va_D (fun q : Nat => s.heap.size ≤ q) [] := hD
      refine lv_icmp_eq (tgt := 1933) hx hb dL_law_1492 (by decide) (fun _ => ?_) (fun h9 => absurd (by decide) h9)
      refine lv_iinc (v := 6) (lv' := [(3, .int 6), (2, .ref m0), (1, .ref x0), (0, .ref b)]) hx hb dL_law_1933 hl (k := 0) rfl (by decide) (by decide) rfl (fun ls hl => ?_)
      refine lv_goto (tgt := 18) hx hb dL_law_1936 (by decide) ?_
      exact law_end l (Nat.le_refl 6) C0 hS (lv_sub hl [0, 3] rfl)
    · exact (ps_17 s1 c3 c9).elim

set_option maxHeartbeats 4000000 in
set_option maxRecDepth 100000 in
theorem br_43 {p : Program} {e : Env} {s : State} {m : MethodId} {below : List Frame} {meth : Method} {c : Code} (l : Launch) {b : Nat} {xs : Nat → Int32} (C0 : lw_At p s m meth c b 6 xs) (D : va_G) (ty : Nat → ClassId) (hK : kK D ty s) (x0 m0 : Nat) (qx qm : Nat → Nat) {H : Heap} {locs : List Loc} {ls : Array Slot} (hP : va_P D vwCl (lawW ty x0 m0 qx qm) H) (hD : va_D (fun q : Nat => s.heap.size ≤ q) (lawW ty x0 m0 qx qm)) (hS : va_S (fun q : Nat => s.heap.size ≤ q) s.heap H locs) (hl : lv_has ls 4 [(3, .int 0), (2, .ref m0), (1, .ref x0), (0, .ref b)]) :
    W p l e room_1 s m #[Value.ref b] below meth c H locs 200 10000 (lw_Z below #[Value.ref b] s) (F0 m 1497 ls []) := by
  obtain ⟨hx, hb, hr, hml, hown0, hts, hX, hbl, hlocks, hgv⟩ := id C0
  have hown : s.vm.findClass RL = some m.cls := hown0
  have hB : ∀ w ∈ bW, w.before #[Value.ref b] s = true := fun w h => hts w (bW_lw h)
  have hA : ∀ q : Nat, s.heap.size ≤ q → (fun q : Nat => s.heap.size ≤ q) q := fun _ h => h
  have hbA : ¬ (fun q : Nat => s.heap.size ≤ q) b := Nat.not_le.mpr hbl
  obtain ⟨s1, h1⟩ : ∃ y, xs 1 = y := ⟨_, rfl⟩
  obtain ⟨s2, h2⟩ : ∃ y, xs 2 = y := ⟨_, rfl⟩
  obtain ⟨s3, h3⟩ : ∃ y, xs 3 = y := ⟨_, rfl⟩
  obtain ⟨s4, h4⟩ : ∃ y, xs 4 = y := ⟨_, rfl⟩
  obtain ⟨s5, h5⟩ : ∃ y, xs 5 = y := ⟨_, rfl⟩
  refine lv_aload_n hx hb dL_law_1497 rfl (lv_at hl 2 rfl) ?_
  refine lv_aload_n hx hb dL_law_1498 rfl (lv_at hl 3 rfl) ?_
  refine lv_iload_n hx hb dL_law_1499 rfl (lv_at hl 0 rfl) ?_
  refine lv_iconst (v := 1) hx hb dL_law_1500 (by decide) ?_
  refine lv_iadd hx hb dL_law_1501 ?_
  refine tp_i (v := 1) (by decide) ?_
  refine va_sld hx hb hX hbl hbA hS (by unfold vp_in; decide) dL_law_1502 ?_
  refine tp_i (v := s1) h1 ?_
  refine lv_aload_n hx hb dL_law_1503 rfl (lv_at hl 3 rfl) ?_
  refine lv_iload_n hx hb dL_law_1504 rfl (lv_at hl 0 rfl) ?_
  refine lv_iconst (v := 2) hx hb dL_law_1505 (by decide) ?_
  refine lv_iadd hx hb dL_law_1506 ?_
  refine tp_i (v := 2) (by decide) ?_
  refine va_sld hx hb hX hbl hbA hS (by unfold vp_in; decide) dL_law_1507 ?_
  refine tp_i (v := s2) h2 ?_
  refine kc_i (va_runV (As := [.int s1, .int s2]) (rest := []) ⟨hx, hb, hml, hown, hB⟩ (c119_X11_judge l D ty H.size x0 (qx 36) (qx 108) (qx 110) (qx 112) (qx 114) s1 s2 (.ref (qx 0)) (.int 0) (.ref (qx 1)) (.ref (qx 19)) (.ref (qx 35)) (.ref (qx 119)) (.ref (qx 42)) (.ref (qx 44)) (.ref (qx 45)) (.ref (qx 50)) (.int (-1)) (.int (-1)) (.int (-1)) (.int (-1)) (.int 0) (.ref (qx 109)) (.int 0) (.ref (qx 111)) (.int 0) (.ref (qx 113)) (.int 0) (.ref (qx 115))) (cwV 2 hB (bw_V mw_908 mw_909 mw_910 mw_216 mw_907) rfl rfl rfl (by decide +kernel) ⟨Nat.le_of_ble_eq_true rfl, Nat.le_of_ble_eq_true rfl⟩) (kp_V hK hP hD [0, 37, 109, 111, 113, 115] (by decide) rfl 0 rfl rfl rfl) rfl rfl hl.1 rfl (lv_room (Nat.le_of_ble_eq_true rfl)) dL_law_1508 ⟨Nat.le_of_ble_eq_true rfl, Nat.le_of_ble_eq_true rfl⟩) hP hD hS hA [0, 37, 109, 111, 113, 115] [122, 123, 124, 125, 126, 127, 128, 129, 130, 131, 132, 133, 134, 135, 136, 137, 138, 139, 140, 141, 142, 143, 144, 145, 146] (wr := [(m0, .inr (12, [.int 0, .ref (qm 23), .ref (qm 0), .ref (qm 1), .ref (qm 2), .int 0, .ref (qm 3), .int 0, .int 0, .int 0, .int 0, .int 0, .int 0, .int (-1), .ref (qm 4), .ref (qm 5), .ref (qm 6), .ref (qm 7), .ref (qm 8), .ref (qm 9), .ref (qm 10), .ref (qm 11), .ref (qm 12), .int 0, .ref (qm 13), .int 0, .ref (qm 14), .int 0, .ref (qm 15), .ref (qm 16), .ref (qm 17), .int 0, .ref (qm 18), .int 0, .ref (qm 19), .ref (qm 20), .ref (qm 21), .ref (qm 22)])), ((qm 0), .inl (ty 1, 912, .inl (kf 0))), ((qm 1), .inl (ty 3, 3, .inl (kf 0))), ((qm 2), .inl (ty 0, 800, .inl (kf 0))), ((qm 3), .inl (ty 1, 5, .inl (kf 0))), ((qm 4), .inl (ty 1, 304, .inl (kf 0))), ((qm 5), .inl (ty 3, 28, .inl (kf 0))), ((qm 6), .inl (ty 1, 28, .inl (kf 0))), ((qm 7), .inl (ty 1, 256, .inl (kf 0))), ((qm 8), .inl (ty 1, 256, .inl (kf 0))), ((qm 9), .inl (ty 3, 16, .inl (kf 0))), ((qm 10), .inl (ty 1, 28, .inl (kf 0))), ((qm 11), .inl (ty 1, 28, .inl (kf 0))), ((qm 12), .inl (ty 1, 44, .inl (kf 0))), ((qm 13), .inl (ty 1, 2, .inl (kf 0))), ((qm 14), .inl (ty 1, 9, .inl (kf 0))), ((qm 15), .inl (ty 1, 512, .inl (kf 0))), ((qm 16), .inl (ty 1, 512, .inl (kf 0))), ((qm 17), .inl (ty 1, 16, .inl (kf 0))), ((qm 18), .inl (ty 1, 2, .inl (kf 0))), ((qm 19), .inl (ty 1, 4, .inl (upd (upd (upd (upd (kf 0) 0 (-1)) 1 (-1)) 2 (-1)) 3 (-1)))), ((qm 20), .inl (ty 1, 4, .inl (kf 0))), ((qm 21), .inl (ty 2, 240, .inr (.inl (kj 0)))), ((qm 22), .inl (ty 2, 60, .inr (.inl (kj 0)))), ((qm 23), .inl (ty 1, 304, .inl (upd (upd (kf 0) 1 2) 4 (-1))))]) rfl rfl (by decide) (by decide) (fun r u H locs w1 hP hD hS => ?_)
  rcases w1 with ⟨c2, rfl, rfl⟩ | ⟨c3, rfl, rfl⟩
  · have hP : va_P D vwCl [(m0, .inr (12, [.int 0, .ref (qm 23), .ref (qm 0), .ref (qm 1), .ref (qm 2), .int 0, .ref (qm 3), .int 0, .int 0, .int 0, .int 0, .int 0, .int 0, .int (-1), .ref (qm 4), .ref (qm 5), .ref (qm 6), .ref (qm 7), .ref (qm 8), .ref (qm 9), .ref (qm 10), .ref (qm 11), .ref (qm 12), .int 0, .ref (qm 13), .int 0, .ref (qm 14), .int 0, .ref (qm 15), .ref (qm 16), .ref (qm 17), .int 0, .ref (qm 18), .int 0, .ref (qm 19), .ref (qm 20), .ref (qm 21), .ref (qm 22)])), ((qm 0), .inl (ty 1, 912, .inl (kf 0))), ((qm 1), .inl (ty 3, 3, .inl (kf 0))), ((qm 2), .inl (ty 0, 800, .inl (kf 0))), ((qm 3), .inl (ty 1, 5, .inl (kf 0))), ((qm 4), .inl (ty 1, 304, .inl (kf 0))), ((qm 5), .inl (ty 3, 28, .inl (kf 0))), ((qm 6), .inl (ty 1, 28, .inl (kf 0))), ((qm 7), .inl (ty 1, 256, .inl (kf 0))), ((qm 8), .inl (ty 1, 256, .inl (kf 0))), ((qm 9), .inl (ty 3, 16, .inl (kf 0))), ((qm 10), .inl (ty 1, 28, .inl (kf 0))), ((qm 11), .inl (ty 1, 28, .inl (kf 0))), ((qm 12), .inl (ty 1, 44, .inl (kf 0))), ((qm 13), .inl (ty 1, 2, .inl (kf 0))), ((qm 14), .inl (ty 1, 9, .inl (kf 0))), ((qm 15), .inl (ty 1, 512, .inl (kf 0))), ((qm 16), .inl (ty 1, 512, .inl (kf 0))), ((qm 17), .inl (ty 1, 16, .inl (kf 0))), ((qm 18), .inl (ty 1, 2, .inl (kf 0))), ((qm 19), .inl (ty 1, 4, .inl (upd (upd (upd (upd (kf 0) 0 (-1)) 1 (-1)) 2 (-1)) 3 (-1)))), ((qm 20), .inl (ty 1, 4, .inl (kf 0))), ((qm 21), .inl (ty 2, 240, .inr (.inl (kj 0)))), ((qm 22), .inl (ty 2, 60, .inr (.inl (kj 0)))), ((qm 23), .inl (ty 1, 304, .inl (upd (upd (kf 0) 1 2) 4 (-1))))] H := hP
    have hD : va_D (fun q : Nat => s.heap.size ≤ q) [(m0, .inr (12, [.int 0, .ref (qm 23), .ref (qm 0), .ref (qm 1), .ref (qm 2), .int 0, .ref (qm 3), .int 0, .int 0, .int 0, .int 0, .int 0, .int 0, .int (-1), .ref (qm 4), .ref (qm 5), .ref (qm 6), .ref (qm 7), .ref (qm 8), .ref (qm 9), .ref (qm 10), .ref (qm 11), .ref (qm 12), .int 0, .ref (qm 13), .int 0, .ref (qm 14), .int 0, .ref (qm 15), .ref (qm 16), .ref (qm 17), .int 0, .ref (qm 18), .int 0, .ref (qm 19), .ref (qm 20), .ref (qm 21), .ref (qm 22)])), ((qm 0), .inl (ty 1, 912, .inl (kf 0))), ((qm 1), .inl (ty 3, 3, .inl (kf 0))), ((qm 2), .inl (ty 0, 800, .inl (kf 0))), ((qm 3), .inl (ty 1, 5, .inl (kf 0))), ((qm 4), .inl (ty 1, 304, .inl (kf 0))), ((qm 5), .inl (ty 3, 28, .inl (kf 0))), ((qm 6), .inl (ty 1, 28, .inl (kf 0))), ((qm 7), .inl (ty 1, 256, .inl (kf 0))), ((qm 8), .inl (ty 1, 256, .inl (kf 0))), ((qm 9), .inl (ty 3, 16, .inl (kf 0))), ((qm 10), .inl (ty 1, 28, .inl (kf 0))), ((qm 11), .inl (ty 1, 28, .inl (kf 0))), ((qm 12), .inl (ty 1, 44, .inl (kf 0))), ((qm 13), .inl (ty 1, 2, .inl (kf 0))), ((qm 14), .inl (ty 1, 9, .inl (kf 0))), ((qm 15), .inl (ty 1, 512, .inl (kf 0))), ((qm 16), .inl (ty 1, 512, .inl (kf 0))), ((qm 17), .inl (ty 1, 16, .inl (kf 0))), ((qm 18), .inl (ty 1, 2, .inl (kf 0))), ((qm 19), .inl (ty 1, 4, .inl (upd (upd (upd (upd (kf 0) 0 (-1)) 1 (-1)) 2 (-1)) 3 (-1)))), ((qm 20), .inl (ty 1, 4, .inl (kf 0))), ((qm 21), .inl (ty 2, 240, .inr (.inl (kj 0)))), ((qm 22), .inl (ty 2, 60, .inr (.inl (kj 0)))), ((qm 23), .inl (ty 1, 304, .inl (upd (upd (kf 0) 1 2) 4 (-1))))] := hD
    refine lv_aload_n hx hb dL_law_1511 rfl (lv_at hl 1 rfl) ?_
    refine lv_aload_n hx hb dL_law_1512 rfl (lv_at hl 3 rfl) ?_
    refine lv_iload_n hx hb dL_law_1513 rfl (lv_at hl 0 rfl) ?_
    refine lv_iconst (v := 1) hx hb dL_law_1514 (by decide) ?_
    refine lv_iadd hx hb dL_law_1515 ?_
    refine tp_i (v := 1) (by decide) ?_
    refine va_sld hx hb hX hbl hbA hS (by unfold vp_in; decide) dL_law_1516 ?_
    refine tp_i (v := s1) h1 ?_
    refine lv_aload_n hx hb dL_law_1517 rfl (lv_at hl 3 rfl) ?_
    refine lv_iload_n hx hb dL_law_1518 rfl (lv_at hl 0 rfl) ?_
    refine lv_iconst (v := 2) hx hb dL_law_1519 (by decide) ?_
    refine lv_iadd hx hb dL_law_1520 ?_
    refine tp_i (v := 2) (by decide) ?_
    refine va_sld hx hb hX hbl hbA hS (by unfold vp_in; decide) dL_law_1521 ?_
    refine tp_i (v := s2) h2 ?_
    refine kc_i (va_runV (As := [.int s1, .int s2]) (rest := [.int (-2)]) ⟨hx, hb, hml, hown, hB⟩ (c214_X12_judge l D ty H.size m0 (qm 19) s1 s2 (.int 0) (.ref (qm 23)) (.ref (qm 0)) (.ref (qm 1)) (.ref (qm 2)) (.int 0) (.ref (qm 3)) (.int 0) (.int 0) (.int 0) (.int 0) (.int 0) (.int 0) (.int (-1)) (.ref (qm 4)) (.ref (qm 5)) (.ref (qm 6)) (.ref (qm 7)) (.ref (qm 8)) (.ref (qm 9)) (.ref (qm 10)) (.ref (qm 11)) (.ref (qm 12)) (.int 0) (.ref (qm 13)) (.int 0) (.ref (qm 14)) (.int 0) (.ref (qm 15)) (.ref (qm 16)) (.ref (qm 17)) (.int 0) (.ref (qm 18)) (.int 0) (.ref (qm 20)) (.ref (qm 21)) (.ref (qm 22))) (cwV 2 hB (bw_V mw_912 mw_913 mw_914 mw_211 mw_911) rfl rfl rfl (by decide +kernel) ⟨Nat.le_of_ble_eq_true rfl, Nat.le_of_ble_eq_true rfl⟩) (kp_V hK hP hD [0, 20] (by decide) rfl 0 rfl rfl rfl) rfl rfl hl.1 rfl (lv_room (Nat.le_of_ble_eq_true rfl)) dL_law_1522 ⟨Nat.le_of_ble_eq_true rfl, Nat.le_of_ble_eq_true rfl⟩) hP hD hS hA [0, 20] [] (wr := []) rfl rfl (by decide) (by decide) (fun r u H locs w4 hP hD hS => ?_)
    rcases w4 with ⟨c5, rfl, rfl⟩ | ⟨c6, rfl, rfl⟩
    · exact (ps_41 s1 s2 c2 c5).elim
    · have hP : va_P D vwCl [] H := hP
      have hD : va_D (fun q : Nat => s.heap.size ≤ q) [] := hD
      refine lv_icmp_eq (tgt := 1933) hx hb dL_law_1525 (by decide) (fun _ => ?_) (fun h9 => absurd (by decide) h9)
      refine lv_iinc (v := 6) (lv' := [(3, .int 6), (2, .ref m0), (1, .ref x0), (0, .ref b)]) hx hb dL_law_1933 hl (k := 0) rfl (by decide) (by decide) rfl (fun ls hl => ?_)
      refine lv_goto (tgt := 18) hx hb dL_law_1936 (by decide) ?_
      exact law_end l (Nat.le_refl 6) C0 hS (lv_sub hl [0, 3] rfl)
  · have hP : va_P D vwCl [(m0, .inr (12, [.int 0, .ref (qm 23), .ref (qm 0), .ref (qm 1), .ref (qm 2), .int 0, .ref (qm 3), .int 0, .int 0, .int 0, .int 0, .int 0, .int 0, .int (-1), .ref (qm 4), .ref (qm 5), .ref (qm 6), .ref (qm 7), .ref (qm 8), .ref (qm 9), .ref (qm 10), .ref (qm 11), .ref (qm 12), .int 0, .ref (qm 13), .int 0, .ref (qm 14), .int 0, .ref (qm 15), .ref (qm 16), .ref (qm 17), .int 0, .ref (qm 18), .int 0, .ref (qm 19), .ref (qm 20), .ref (qm 21), .ref (qm 22)])), ((qm 0), .inl (ty 1, 912, .inl (kf 0))), ((qm 1), .inl (ty 3, 3, .inl (kf 0))), ((qm 2), .inl (ty 0, 800, .inl (kf 0))), ((qm 3), .inl (ty 1, 5, .inl (kf 0))), ((qm 4), .inl (ty 1, 304, .inl (kf 0))), ((qm 5), .inl (ty 3, 28, .inl (kf 0))), ((qm 6), .inl (ty 1, 28, .inl (kf 0))), ((qm 7), .inl (ty 1, 256, .inl (kf 0))), ((qm 8), .inl (ty 1, 256, .inl (kf 0))), ((qm 9), .inl (ty 3, 16, .inl (kf 0))), ((qm 10), .inl (ty 1, 28, .inl (kf 0))), ((qm 11), .inl (ty 1, 28, .inl (kf 0))), ((qm 12), .inl (ty 1, 44, .inl (kf 0))), ((qm 13), .inl (ty 1, 2, .inl (kf 0))), ((qm 14), .inl (ty 1, 9, .inl (kf 0))), ((qm 15), .inl (ty 1, 512, .inl (kf 0))), ((qm 16), .inl (ty 1, 512, .inl (kf 0))), ((qm 17), .inl (ty 1, 16, .inl (kf 0))), ((qm 18), .inl (ty 1, 2, .inl (kf 0))), ((qm 19), .inl (ty 1, 4, .inl (upd (upd (upd (upd (kf 0) 0 (-1)) 1 (-1)) 2 (-1)) 3 (-1)))), ((qm 20), .inl (ty 1, 4, .inl (kf 0))), ((qm 21), .inl (ty 2, 240, .inr (.inl (kj 0)))), ((qm 22), .inl (ty 2, 60, .inr (.inl (kj 0)))), ((qm 23), .inl (ty 1, 304, .inl (upd (upd (kf 0) 1 2) 4 (-1))))] H := hP
    have hD : va_D (fun q : Nat => s.heap.size ≤ q) [(m0, .inr (12, [.int 0, .ref (qm 23), .ref (qm 0), .ref (qm 1), .ref (qm 2), .int 0, .ref (qm 3), .int 0, .int 0, .int 0, .int 0, .int 0, .int 0, .int (-1), .ref (qm 4), .ref (qm 5), .ref (qm 6), .ref (qm 7), .ref (qm 8), .ref (qm 9), .ref (qm 10), .ref (qm 11), .ref (qm 12), .int 0, .ref (qm 13), .int 0, .ref (qm 14), .int 0, .ref (qm 15), .ref (qm 16), .ref (qm 17), .int 0, .ref (qm 18), .int 0, .ref (qm 19), .ref (qm 20), .ref (qm 21), .ref (qm 22)])), ((qm 0), .inl (ty 1, 912, .inl (kf 0))), ((qm 1), .inl (ty 3, 3, .inl (kf 0))), ((qm 2), .inl (ty 0, 800, .inl (kf 0))), ((qm 3), .inl (ty 1, 5, .inl (kf 0))), ((qm 4), .inl (ty 1, 304, .inl (kf 0))), ((qm 5), .inl (ty 3, 28, .inl (kf 0))), ((qm 6), .inl (ty 1, 28, .inl (kf 0))), ((qm 7), .inl (ty 1, 256, .inl (kf 0))), ((qm 8), .inl (ty 1, 256, .inl (kf 0))), ((qm 9), .inl (ty 3, 16, .inl (kf 0))), ((qm 10), .inl (ty 1, 28, .inl (kf 0))), ((qm 11), .inl (ty 1, 28, .inl (kf 0))), ((qm 12), .inl (ty 1, 44, .inl (kf 0))), ((qm 13), .inl (ty 1, 2, .inl (kf 0))), ((qm 14), .inl (ty 1, 9, .inl (kf 0))), ((qm 15), .inl (ty 1, 512, .inl (kf 0))), ((qm 16), .inl (ty 1, 512, .inl (kf 0))), ((qm 17), .inl (ty 1, 16, .inl (kf 0))), ((qm 18), .inl (ty 1, 2, .inl (kf 0))), ((qm 19), .inl (ty 1, 4, .inl (upd (upd (upd (upd (kf 0) 0 (-1)) 1 (-1)) 2 (-1)) 3 (-1)))), ((qm 20), .inl (ty 1, 4, .inl (kf 0))), ((qm 21), .inl (ty 2, 240, .inr (.inl (kj 0)))), ((qm 22), .inl (ty 2, 60, .inr (.inl (kj 0)))), ((qm 23), .inl (ty 1, 304, .inl (upd (upd (kf 0) 1 2) 4 (-1))))] := hD
    refine lv_aload_n hx hb dL_law_1511 rfl (lv_at hl 1 rfl) ?_
    refine lv_aload_n hx hb dL_law_1512 rfl (lv_at hl 3 rfl) ?_
    refine lv_iload_n hx hb dL_law_1513 rfl (lv_at hl 0 rfl) ?_
    refine lv_iconst (v := 1) hx hb dL_law_1514 (by decide) ?_
    refine lv_iadd hx hb dL_law_1515 ?_
    refine tp_i (v := 1) (by decide) ?_
    refine va_sld hx hb hX hbl hbA hS (by unfold vp_in; decide) dL_law_1516 ?_
    refine tp_i (v := s1) h1 ?_
    refine lv_aload_n hx hb dL_law_1517 rfl (lv_at hl 3 rfl) ?_
    refine lv_iload_n hx hb dL_law_1518 rfl (lv_at hl 0 rfl) ?_
    refine lv_iconst (v := 2) hx hb dL_law_1519 (by decide) ?_
    refine lv_iadd hx hb dL_law_1520 ?_
    refine tp_i (v := 2) (by decide) ?_
    refine va_sld hx hb hX hbl hbA hS (by unfold vp_in; decide) dL_law_1521 ?_
    refine tp_i (v := s2) h2 ?_
    refine kc_i (va_runV (As := [.int s1, .int s2]) (rest := [.int (-6)]) ⟨hx, hb, hml, hown, hB⟩ (c214_X12_judge l D ty H.size m0 (qm 19) s1 s2 (.int 0) (.ref (qm 23)) (.ref (qm 0)) (.ref (qm 1)) (.ref (qm 2)) (.int 0) (.ref (qm 3)) (.int 0) (.int 0) (.int 0) (.int 0) (.int 0) (.int 0) (.int (-1)) (.ref (qm 4)) (.ref (qm 5)) (.ref (qm 6)) (.ref (qm 7)) (.ref (qm 8)) (.ref (qm 9)) (.ref (qm 10)) (.ref (qm 11)) (.ref (qm 12)) (.int 0) (.ref (qm 13)) (.int 0) (.ref (qm 14)) (.int 0) (.ref (qm 15)) (.ref (qm 16)) (.ref (qm 17)) (.int 0) (.ref (qm 18)) (.int 0) (.ref (qm 20)) (.ref (qm 21)) (.ref (qm 22))) (cwV 2 hB (bw_V mw_912 mw_913 mw_914 mw_211 mw_911) rfl rfl rfl (by decide +kernel) ⟨Nat.le_of_ble_eq_true rfl, Nat.le_of_ble_eq_true rfl⟩) (kp_V hK hP hD [0, 20] (by decide) rfl 0 rfl rfl rfl) rfl rfl hl.1 rfl (lv_room (Nat.le_of_ble_eq_true rfl)) dL_law_1522 ⟨Nat.le_of_ble_eq_true rfl, Nat.le_of_ble_eq_true rfl⟩) hP hD hS hA [0, 20] [] (wr := []) rfl rfl (by decide) (by decide) (fun r u H locs w7 hP hD hS => ?_)
    rcases w7 with ⟨c8, rfl, rfl⟩ | ⟨c9, rfl, rfl⟩
    · have hP : va_P D vwCl [] H := hP
      have hD : va_D (fun q : Nat => s.heap.size ≤ q) [] := hD
      refine lv_icmp_eq (tgt := 1933) hx hb dL_law_1525 (by decide) (fun _ => ?_) (fun h9 => absurd (by decide) h9)
      refine lv_iinc (v := 6) (lv' := [(3, .int 6), (2, .ref m0), (1, .ref x0), (0, .ref b)]) hx hb dL_law_1933 hl (k := 0) rfl (by decide) (by decide) rfl (fun ls hl => ?_)
      refine lv_goto (tgt := 18) hx hb dL_law_1936 (by decide) ?_
      exact law_end l (Nat.le_refl 6) C0 hS (lv_sub hl [0, 3] rfl)
    · exact (ps_42 s1 s2 c3 c9).elim
