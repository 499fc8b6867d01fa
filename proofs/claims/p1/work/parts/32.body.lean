theorem law_sw (x0 : Int32) : (x0.toInt < 0 ∨ 54 < x0.toInt) ∨ x0 = 0 ∨ x0 = 1 ∨ x0 = 2 ∨ x0 = 3 ∨ x0 = 4 ∨ x0 = 5 ∨ x0 = 6 ∨ x0 = 7 ∨ x0 = 8 ∨ x0 = 9 ∨ x0 = 10 ∨ x0 = 11 ∨ x0 = 12 ∨ x0 = 13 ∨ x0 = 14 ∨ x0 = 15 ∨ x0 = 16 ∨ x0 = 17 ∨ x0 = 18 ∨ x0 = 19 ∨ x0 = 20 ∨ x0 = 21 ∨ x0 = 22 ∨ x0 = 23 ∨ x0 = 24 ∨ x0 = 25 ∨ x0 = 26 ∨ x0 = 27 ∨ x0 = 28 ∨ x0 = 29 ∨ x0 = 30 ∨ x0 = 31 ∨ x0 = 32 ∨ x0 = 33 ∨ x0 = 34 ∨ x0 = 35 ∨ x0 = 36 ∨ x0 = 37 ∨ x0 = 38 ∨ x0 = 39 ∨ x0 = 40 ∨ x0 = 41 ∨ x0 = 42 ∨ x0 = 43 ∨ x0 = 44 ∨ x0 = 45 ∨ x0 = 46 ∨ x0 = 47 ∨ x0 = 48 ∨ x0 = 49 ∨ x0 = 50 ∨ x0 = 51 ∨ x0 = 52 ∨ x0 = 53 ∨ x0 = 54 := by
  simp only [Int32.lt_iff_toInt_lt, Int32.le_iff_toInt_le, Int64.lt_iff_toInt_lt, Int64.le_iff_toInt_le, ← Int32.toInt_inj, Int32.toInt_toInt64, Int32.reduceToInt, Int64.reduceToInt] at *; omega
set_option maxHeartbeats 4000000 in
set_option maxRecDepth 100000 in
theorem law_body {p : Program} {e : Env} {s : State} {m : MethodId} {below : List Frame} {meth : Method} {c : Code} (l : Launch) {b L : Nat} {xs : Nat → Int32} (hL : L ≤ 6) (C0 : lw_At p s m meth c b L xs) (D : va_G) (ty : Nat → ClassId) (hK : kK D ty s) (x0 m0 : Nat) (qx qm : Nat → Nat) {H : Heap} {locs : List Loc} {ls : Array Slot} (hP : va_P D vwCl (lawW ty x0 m0 qx qm) H) (hD : va_D (fun q : Nat => s.heap.size ≤ q) (lawW ty x0 m0 qx qm)) (hS : va_S (fun q : Nat => s.heap.size ≤ q) s.heap H locs) (hl : lv_has ls 4 [(3, .int 0), (2, .ref m0), (1, .ref x0), (0, .ref b)]) : W p l e room_1 s m #[Value.ref b] below meth c H locs 200 10000 (lw_Z below #[Value.ref b] s) (F0 m 18 ls []) := by
  obtain ⟨hx, hb, hr, hml, hown0, hts, hX, hbl, hlocks, hgv⟩ := id C0
  have hbA : ¬ (fun q : Nat => s.heap.size ≤ q) b := Nat.not_le.mpr hbl
  refine lv_iload_n hx hb dL_law_18 rfl (lv_at hl 0 rfl) ?_
  refine lv_aload_n hx hb dL_law_19 rfl (lv_at hl 3 rfl) ?_
  refine va_slen hx hb hX hbl hbA hS dL_law_20 ?_
  refine lv_bipush (v := 6) hx hb dL_law_21 (by decide) ?_
  refine lv_isub hx hb dL_law_23 ?_
  refine lv_icmp_gt (tgt := 1939) hx hb dL_law_24 (by decide) (fun _ => law_fin l C0 hS) (fun h9 => ?_)
  have h6 : L = 6 := by
    rcases (show L = 0 ∨ L = 1 ∨ L = 2 ∨ L = 3 ∨ L = 4 ∨ L = 5 ∨ L = 6 by omega) with rfl | rfl | rfl | rfl | rfl | rfl | rfl
    · exact absurd (by decide) h9
    · exact absurd (by decide) h9
    · exact absurd (by decide) h9
    · exact absurd (by decide) h9
    · exact absurd (by decide) h9
    · exact absurd (by decide) h9
    · rfl
  subst h6
  refine lv_aload_n hx hb dL_law_27 rfl (lv_at hl 3 rfl) ?_
  refine lv_iload_n hx hb dL_law_28 rfl (lv_at hl 0 rfl) ?_
  refine va_sld hx hb hX hbl hbA hS (by unfold vp_in; decide) dL_law_29 ?_
  refine lv_bipush (v := 63) hx hb dL_law_30 (by decide) ?_
  refine lv_iand hx hb dL_law_32 ?_
  refine lv_topi (fun v hv => ?_)
  clear hv
  rcases law_sw v with hv | rfl | rfl | rfl | rfl | rfl | rfl | rfl | rfl | rfl | rfl | rfl | rfl | rfl | rfl | rfl | rfl | rfl | rfl | rfl | rfl | rfl | rfl | rfl | rfl | rfl | rfl | rfl | rfl | rfl | rfl | rfl | rfl | rfl | rfl | rfl | rfl | rfl | rfl | rfl | rfl | rfl | rfl | rfl | rfl | rfl | rfl | rfl | rfl | rfl | rfl | rfl | rfl | rfl | rfl | rfl
  · refine lv_tableOut (tgt := 1933) hx hb dL_law_33 hv (by decide) ?_
    refine lv_iinc (v := 6) (lv' := [(3, .int 6), (2, .ref m0), (1, .ref x0), (0, .ref b)]) hx hb dL_law_1933 hl (k := 0) rfl (by decide) (by decide) rfl (fun ls hl => ?_)
    refine lv_goto (tgt := 18) hx hb dL_law_1936 (by decide) ?_
    exact law_end l (Nat.le_refl 6) C0 hS (lv_sub hl [0, 3] rfl)
  · refine lv_tableIn (off := 235) (tgt := 268) hx hb dL_law_33 (by decide) (by decide) (by decide) (by decide) ?_
    exact br_0 l C0 D ty hK x0 m0 qx qm hP hD hS hl
  · refine lv_tableIn (off := 298) (tgt := 331) hx hb dL_law_33 (by decide) (by decide) (by decide) (by decide) ?_
    exact br_1 l C0 D ty hK x0 m0 qx qm hP hD hS hl
  · refine lv_tableIn (off := 321) (tgt := 354) hx hb dL_law_33 (by decide) (by decide) (by decide) (by decide) ?_
    exact br_2 l C0 D ty hK x0 m0 qx qm hP hD hS hl
  · refine lv_tableIn (off := 334) (tgt := 367) hx hb dL_law_33 (by decide) (by decide) (by decide) (by decide) ?_
    exact br_3 l C0 D ty hK x0 m0 qx qm hP hD hS hl
  · refine lv_tableIn (off := 357) (tgt := 390) hx hb dL_law_33 (by decide) (by decide) (by decide) (by decide) ?_
    exact br_4 l C0 D ty hK x0 m0 qx qm hP hD hS hl
  · refine lv_tableIn (off := 400) (tgt := 433) hx hb dL_law_33 (by decide) (by decide) (by decide) (by decide) ?_
    exact br_5 l C0 D ty hK x0 m0 qx qm hP hD hS hl
  · refine lv_tableIn (off := 433) (tgt := 466) hx hb dL_law_33 (by decide) (by decide) (by decide) (by decide) ?_
    exact br_6 l C0 D ty hK x0 m0 qx qm hP hD hS hl
  · refine lv_tableIn (off := 466) (tgt := 499) hx hb dL_law_33 (by decide) (by decide) (by decide) (by decide) ?_
    exact br_7 l C0 D ty hK x0 m0 qx qm hP hD hS hl
  · refine lv_tableIn (off := 489) (tgt := 522) hx hb dL_law_33 (by decide) (by decide) (by decide) (by decide) ?_
    exact br_8 l C0 D ty hK x0 m0 qx qm hP hD hS hl
  · refine lv_tableIn (off := 512) (tgt := 545) hx hb dL_law_33 (by decide) (by decide) (by decide) (by decide) ?_
    exact br_9 l C0 D ty hK x0 m0 qx qm hP hD hS hl
  · refine lv_tableIn (off := 535) (tgt := 568) hx hb dL_law_33 (by decide) (by decide) (by decide) (by decide) ?_
    exact br_10 l C0 D ty hK x0 m0 qx qm hP hD hS hl
  · refine lv_tableIn (off := 558) (tgt := 591) hx hb dL_law_33 (by decide) (by decide) (by decide) (by decide) ?_
    exact br_11 l C0 D ty hK x0 m0 qx qm hP hD hS hl
  · refine lv_tableIn (off := 581) (tgt := 614) hx hb dL_law_33 (by decide) (by decide) (by decide) (by decide) ?_
    exact br_12 l C0 D ty hK x0 m0 qx qm hP hD hS hl
  · refine lv_tableIn (off := 604) (tgt := 637) hx hb dL_law_33 (by decide) (by decide) (by decide) (by decide) ?_
    exact br_13 l C0 D ty hK x0 m0 qx qm hP hD hS hl
  · refine lv_tableIn (off := 627) (tgt := 660) hx hb dL_law_33 (by decide) (by decide) (by decide) (by decide) ?_
    exact br_14 l C0 D ty hK x0 m0 qx qm hP hD hS hl
  · refine lv_tableIn (off := 660) (tgt := 693) hx hb dL_law_33 (by decide) (by decide) (by decide) (by decide) ?_
    exact br_15 l C0 D ty hK x0 m0 qx qm hP hD hS hl
  · refine lv_tableIn (off := 703) (tgt := 736) hx hb dL_law_33 (by decide) (by decide) (by decide) (by decide) ?_
    exact br_16 l C0 D ty hK x0 m0 qx qm hP hD hS hl
  · refine lv_tableIn (off := 736) (tgt := 769) hx hb dL_law_33 (by decide) (by decide) (by decide) (by decide) ?_
    exact br_17 l C0 D ty hK x0 m0 qx qm hP hD hS hl
  · refine lv_tableIn (off := 759) (tgt := 792) hx hb dL_law_33 (by decide) (by decide) (by decide) (by decide) ?_
    exact br_18 l C0 D ty hK x0 m0 qx qm hP hD hS hl
  · refine lv_tableIn (off := 782) (tgt := 815) hx hb dL_law_33 (by decide) (by decide) (by decide) (by decide) ?_
    exact br_19 l C0 D ty hK x0 m0 qx qm hP hD hS hl
  · refine lv_tableIn (off := 815) (tgt := 848) hx hb dL_law_33 (by decide) (by decide) (by decide) (by decide) ?_
    exact br_20 l C0 D ty hK x0 m0 qx qm hP hD hS hl
  · refine lv_tableIn (off := 838) (tgt := 871) hx hb dL_law_33 (by decide) (by decide) (by decide) (by decide) ?_
    exact br_21 l C0 D ty hK x0 m0 qx qm hP hD hS hl
  · refine lv_tableIn (off := 861) (tgt := 894) hx hb dL_law_33 (by decide) (by decide) (by decide) (by decide) ?_
    exact br_22 l C0 D ty hK x0 m0 qx qm hP hD hS hl
  · refine lv_tableIn (off := 884) (tgt := 917) hx hb dL_law_33 (by decide) (by decide) (by decide) (by decide) ?_
    exact br_23 l C0 D ty hK x0 m0 qx qm hP hD hS hl
  · refine lv_tableIn (off := 917) (tgt := 950) hx hb dL_law_33 (by decide) (by decide) (by decide) (by decide) ?_
    exact br_24 l C0 D ty hK x0 m0 qx qm hP hD hS hl
  · refine lv_tableIn (off := 940) (tgt := 973) hx hb dL_law_33 (by decide) (by decide) (by decide) (by decide) ?_
    exact br_25 l C0 D ty hK x0 m0 qx qm hP hD hS hl
  · refine lv_tableIn (off := 963) (tgt := 996) hx hb dL_law_33 (by decide) (by decide) (by decide) (by decide) ?_
    exact br_26 l C0 D ty hK x0 m0 qx qm hP hD hS hl
  · refine lv_tableIn (off := 986) (tgt := 1019) hx hb dL_law_33 (by decide) (by decide) (by decide) (by decide) ?_
    exact br_27 l C0 D ty hK x0 m0 qx qm hP hD hS hl
  · refine lv_tableIn (off := 1019) (tgt := 1052) hx hb dL_law_33 (by decide) (by decide) (by decide) (by decide) ?_
    exact br_28 l C0 D ty hK x0 m0 qx qm hP hD hS hl
  · refine lv_tableIn (off := 1052) (tgt := 1085) hx hb dL_law_33 (by decide) (by decide) (by decide) (by decide) ?_
    exact br_29 l C0 D ty hK x0 m0 qx qm hP hD hS hl
  · refine lv_tableIn (off := 1085) (tgt := 1118) hx hb dL_law_33 (by decide) (by decide) (by decide) (by decide) ?_
    exact br_30 l C0 D ty hK x0 m0 qx qm hP hD hS hl
  · refine lv_tableIn (off := 1108) (tgt := 1141) hx hb dL_law_33 (by decide) (by decide) (by decide) (by decide) ?_
    exact br_31 l C0 D ty hK x0 m0 qx qm hP hD hS hl
  · refine lv_tableIn (off := 1141) (tgt := 1174) hx hb dL_law_33 (by decide) (by decide) (by decide) (by decide) ?_
    exact br_32 l C0 D ty hK x0 m0 qx qm hP hD hS hl
  · refine lv_tableIn (off := 1164) (tgt := 1197) hx hb dL_law_33 (by decide) (by decide) (by decide) (by decide) ?_
    exact br_33 l C0 D ty hK x0 m0 qx qm hP hD hS hl
  · refine lv_tableIn (off := 1207) (tgt := 1240) hx hb dL_law_33 (by decide) (by decide) (by decide) (by decide) ?_
    exact br_34 l C0 D ty hK x0 m0 qx qm hP hD hS hl
  · refine lv_tableIn (off := 1240) (tgt := 1273) hx hb dL_law_33 (by decide) (by decide) (by decide) (by decide) ?_
    exact br_35 l C0 D ty hK x0 m0 qx qm hP hD hS hl
  · refine lv_tableIn (off := 1263) (tgt := 1296) hx hb dL_law_33 (by decide) (by decide) (by decide) (by decide) ?_
    exact br_36 l C0 D ty hK x0 m0 qx qm hP hD hS hl
  · refine lv_tableIn (off := 1286) (tgt := 1319) hx hb dL_law_33 (by decide) (by decide) (by decide) (by decide) ?_
    exact br_37 l C0 D ty hK x0 m0 qx qm hP hD hS hl
  · refine lv_tableIn (off := 1329) (tgt := 1362) hx hb dL_law_33 (by decide) (by decide) (by decide) (by decide) ?_
    exact br_38 l C0 D ty hK x0 m0 qx qm hP hD hS hl
  · refine lv_tableIn (off := 1342) (tgt := 1375) hx hb dL_law_33 (by decide) (by decide) (by decide) (by decide) ?_
    exact br_39 l C0 D ty hK x0 m0 qx qm hP hD hS hl
  · refine lv_tableIn (off := 1365) (tgt := 1398) hx hb dL_law_33 (by decide) (by decide) (by decide) (by decide) ?_
    exact br_40 l C0 D ty hK x0 m0 qx qm hP hD hS hl
  · refine lv_tableIn (off := 1408) (tgt := 1441) hx hb dL_law_33 (by decide) (by decide) (by decide) (by decide) ?_
    exact br_41 l C0 D ty hK x0 m0 qx qm hP hD hS hl
  · refine lv_tableIn (off := 1441) (tgt := 1474) hx hb dL_law_33 (by decide) (by decide) (by decide) (by decide) ?_
    exact br_42 l C0 D ty hK x0 m0 qx qm hP hD hS hl
  · refine lv_tableIn (off := 1464) (tgt := 1497) hx hb dL_law_33 (by decide) (by decide) (by decide) (by decide) ?_
    exact br_43 l C0 D ty hK x0 m0 qx qm hP hD hS hl
  · refine lv_tableIn (off := 1497) (tgt := 1530) hx hb dL_law_33 (by decide) (by decide) (by decide) (by decide) ?_
    exact br_44 l C0 D ty hK x0 m0 qx qm hP hD hS hl
  · refine lv_tableIn (off := 1530) (tgt := 1563) hx hb dL_law_33 (by decide) (by decide) (by decide) (by decide) ?_
    exact br_45 l C0 D ty hK x0 m0 qx qm hP hD hS hl
  · refine lv_tableIn (off := 1553) (tgt := 1586) hx hb dL_law_33 (by decide) (by decide) (by decide) (by decide) ?_
    exact br_46 l C0 D ty hK x0 m0 qx qm hP hD hS hl
  · refine lv_tableIn (off := 1586) (tgt := 1619) hx hb dL_law_33 (by decide) (by decide) (by decide) (by decide) ?_
    exact br_47 l C0 D ty hK x0 m0 qx qm hP hD hS hl
  · refine lv_tableIn (off := 1619) (tgt := 1652) hx hb dL_law_33 (by decide) (by decide) (by decide) (by decide) ?_
    exact br_48 l C0 D ty hK x0 m0 qx qm hP hD hS hl
  · refine lv_tableIn (off := 1652) (tgt := 1685) hx hb dL_law_33 (by decide) (by decide) (by decide) (by decide) ?_
    exact br_49 l C0 D ty hK x0 m0 qx qm hP hD hS hl
  · refine lv_tableIn (off := 1675) (tgt := 1708) hx hb dL_law_33 (by decide) (by decide) (by decide) (by decide) ?_
    exact br_50 l C0 D ty hK x0 m0 qx qm hP hD hS hl
  · refine lv_tableIn (off := 1698) (tgt := 1731) hx hb dL_law_33 (by decide) (by decide) (by decide) (by decide) ?_
    exact br_51 l C0 D ty hK x0 m0 qx qm hP hD hS hl
  · refine lv_tableIn (off := 1721) (tgt := 1754) hx hb dL_law_33 (by decide) (by decide) (by decide) (by decide) ?_
    exact br_52 l C0 D ty hK x0 m0 qx qm hP hD hS hl
  · refine lv_tableIn (off := 1764) (tgt := 1797) hx hb dL_law_33 (by decide) (by decide) (by decide) (by decide) ?_
    exact br_53 l C0 D ty hK x0 m0 qx qm hP hD hS hl
  · refine lv_tableIn (off := 1837) (tgt := 1870) hx hb dL_law_33 (by decide) (by decide) (by decide) (by decide) ?_
    exact br_54 l C0 D ty hK x0 m0 qx qm hP hD hS hl
