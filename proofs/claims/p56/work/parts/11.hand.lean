set_option maxHeartbeats 4000000 in
theorem c_fillI (l : Launch) (D : va_G) (ty : Nat → ClassId) (sz : Nat) (h0 n : Nat) (f : Nat → Int32) (v : Int32) (hn : n < 2 ^ 31) : cQ l yJ7_fill_53178 cJ7_fill_53178 4 none 0 0 [.ref h0, .int v] D ty [(h0, .inl (ty 1, n, .inl f))] sz (qV (fun (u : va_W) => [(h0, .inl (ty 1, n, .inl (kf v)))] = u)) 0 0 := by
  refine cQ.of (by decide) (Nat.le_of_ble_eq_true rfl) (fun p e s m below meth c A ls C hsz hP hK hD hA hl => ?_)
  obtain ⟨hx, hb, hml, hown, hB, hr, hlocks, hin⟩ := C
  have hS : va_S A s.heap s.heap [] := va_S.rf
  have hl : lv_has ls 4 [(0, .ref h0), (1, .int v)] := hl
  have loop : ∀ (k i : Nat) (g : Nat → Int32) (H : Heap) (locs : List Loc) (ls : Array Slot), i + k = n → (∀ j, j < i → g j = v) → va_P D vwCl [(h0, .inl (ty 1, n, .inl g))] H → va_D A [(h0, .inl (ty 1, n, .inl g))] → va_S A s.heap H locs → lv_has ls 4 [(2, .int (nI i)), (3, .int (nI n)), (0, .ref h0), (1, .int v)] →
      W p l e ({ frames := 0, cells := 0, slots := 0, locals := 0 }) s m ([.ref h0, .int v] : List Value).toArray below meth c H locs 0 0 (MQ below (qV (fun (u : va_W) => [(h0, .inl (ty 1, n, .inl (kf v)))] = u) D A) ([.ref h0, .int v] : List Value).toArray s 0 0 A) (F0 m 5 ls []) := by
    intro k
    induction k with
    | zero =>
      intro i g H locs ls hi hg hP hD hS hl
      have e1 : i = n := by omega
      subst e1
      refine lv_iload_n hx hb dJ7_fill_53178_5 rfl (lv_at hl 0 rfl) ?_
      refine lv_iload_n hx hb dJ7_fill_53178_6 rfl (lv_at hl 1 rfl) ?_
      refine lv_icmp_ge (tgt := 20) hx hb dJ7_fill_53178_7 (by decide) (fun _ => ?_) (fun h9 => absurd (nI_le (Nat.le_refl _) hn) h9)
      have hP := cx_P (q0 := 0) (y := (i, .inl (kf v))) hP rfl (cx_i (fun j hj => hg j hj))
      have hD := cx_D (q0 := 0) (y := .inl (ty 1, i, .inl (kf v))) hD rfl
      exact kr_v hx hb hr hlocks hP hD hS [(h0, .inl (ty 1, i, .inl (kf v)))] [0] (by decide) rfl rfl (by decide) (by decide) dJ7_fill_53178_20
    | succ k ih =>
      intro i g H locs ls hi hg hP hD hS hl
      refine lv_iload_n hx hb dJ7_fill_53178_5 rfl (lv_at hl 0 rfl) ?_
      refine lv_iload_n hx hb dJ7_fill_53178_6 rfl (lv_at hl 1 rfl) ?_
      refine lv_icmp_ge (tgt := 20) hx hb dJ7_fill_53178_7 (by decide) (fun h9 => absurd h9 (nI_ge (show i < n by omega) hn)) (fun _ => ?_)
      refine lv_aload_n hx hb dJ7_fill_53178_10 rfl (lv_at hl 2 rfl) ?_
      refine lv_iload_n hx hb dJ7_fill_53178_11 rfl (lv_at hl 0 rfl) ?_
      refine lv_iload_n hx hb dJ7_fill_53178_12 rfl (lv_at hl 3 rfl) ?_
      refine wy_iast hx hb hK hP hD hS 0 1 rfl rfl (nI_in (show i < n by omega) hn) dJ7_fill_53178_13 (j := i) (nI_clamp (by omega)) rfl (fun H locs hP hD hS => ?_)
      refine lv_iinc (v := nI (i + 1)) (lv' := [(2, .int (nI (i + 1))), (3, .int (nI n)), (0, .ref h0), (1, .int v)]) hx hb dJ7_fill_53178_14 hl (k := 0) rfl (by rw [nI_succ]; rfl) (by decide) rfl (fun ls hl => ?_)
      refine lv_goto (tgt := 5) hx hb dJ7_fill_53178_17 (by decide) ?_
      refine ih (i + 1) _ H locs ls (by omega) (fun j hj => ?_) hP hD hS hl
      by_cases e : j = i
      · subst e; simp [upd]
      · simp only [upd, e, if_false]; exact hg j (by omega)
  refine lv_iconst (v := 0) hx hb dJ7_fill_53178_0 (by decide) ?_
  refine lv_istore_n (lv' := [(2, .int 0), (0, .ref h0), (1, .int v)]) hx hb dJ7_fill_53178_1 rfl hl (by decide) rfl (fun ls hl => ?_)
  refine lv_aload_n hx hb dJ7_fill_53178_2 rfl (lv_at hl 1 rfl) ?_
  refine va_alen (v := nI n) hx hb hK.1 hP 0 1 rfl rfl rfl dJ7_fill_53178_3 ?_
  refine lv_istore_n (lv' := [(3, .int (nI n)), (2, .int 0), (0, .ref h0), (1, .int v)]) hx hb dJ7_fill_53178_4 rfl hl (by decide) rfl (fun ls hl => ?_)
  exact loop n 0 f s.heap [] ls (by omega) (fun j hj => absurd hj (Nat.not_lt_zero _)) hP hD hS (by rw [nI_0]; exact lv_sub hl [1, 0, 2, 3] rfl)
set_option maxHeartbeats 4000000 in
theorem c_fillJ (l : Launch) (D : va_G) (ty : Nat → ClassId) (sz : Nat) (h0 n : Nat) (f : Nat → Int64) (v : Int64) (hn : n < 2 ^ 31) : cQ l yJ7_fill_d0a16 cJ7_fill_d0a16 5 none 0 0 [.ref h0, .long v] D ty [(h0, .inl (ty 2, n, .inr (.inl f)))] sz (qV (fun (u : va_W) => [(h0, .inl (ty 2, n, .inr (.inl (kj v))))] = u)) 0 0 := by
  refine cQ.of (by decide) (Nat.le_of_ble_eq_true rfl) (fun p e s m below meth c A ls C hsz hP hK hD hA hl => ?_)
  obtain ⟨hx, hb, hml, hown, hB, hr, hlocks, hin⟩ := C
  have hS : va_S A s.heap s.heap [] := va_S.rf
  have hl : lv_has ls 5 [(0, .ref h0), (1, .long v)] := hl
  have loop : ∀ (k i : Nat) (g : Nat → Int64) (H : Heap) (locs : List Loc) (ls : Array Slot), i + k = n → (∀ j, j < i → g j = v) → va_P D vwCl [(h0, .inl (ty 2, n, .inr (.inl g)))] H → va_D A [(h0, .inl (ty 2, n, .inr (.inl g)))] → va_S A s.heap H locs → lv_has ls 5 [(3, .int (nI i)), (4, .int (nI n)), (0, .ref h0), (1, .long v)] →
      W p l e ({ frames := 0, cells := 0, slots := 0, locals := 0 }) s m ([.ref h0, .long v] : List Value).toArray below meth c H locs 0 0 (MQ below (qV (fun (u : va_W) => [(h0, .inl (ty 2, n, .inr (.inl (kj v))))] = u) D A) ([.ref h0, .long v] : List Value).toArray s 0 0 A) (F0 m 6 ls []) := by
    intro k
    induction k with
    | zero =>
      intro i g H locs ls hi hg hP hD hS hl
      have e1 : i = n := by omega
      subst e1
      refine lv_iload_n hx hb dJ7_fill_d0a16_6 rfl (lv_at hl 0 rfl) ?_
      refine lv_iload hx hb dJ7_fill_d0a16_7 (lv_at hl 1 rfl) ?_
      refine lv_icmp_ge (tgt := 22) hx hb dJ7_fill_d0a16_9 (by decide) (fun _ => ?_) (fun h9 => absurd (nI_le (Nat.le_refl _) hn) h9)
      have hP := cx_P (q0 := 0) (y := (i, .inr (.inl (kj v)))) hP rfl (cx_l (fun j hj => hg j hj))
      have hD := cx_D (q0 := 0) (y := .inl (ty 2, i, .inr (.inl (kj v)))) hD rfl
      exact kr_v hx hb hr hlocks hP hD hS [(h0, .inl (ty 2, i, .inr (.inl (kj v))))] [0] (by decide) rfl rfl (by decide) (by decide) dJ7_fill_d0a16_22
    | succ k ih =>
      intro i g H locs ls hi hg hP hD hS hl
      refine lv_iload_n hx hb dJ7_fill_d0a16_6 rfl (lv_at hl 0 rfl) ?_
      refine lv_iload hx hb dJ7_fill_d0a16_7 (lv_at hl 1 rfl) ?_
      refine lv_icmp_ge (tgt := 22) hx hb dJ7_fill_d0a16_9 (by decide) (fun h9 => absurd h9 (nI_ge (show i < n by omega) hn)) (fun _ => ?_)
      refine lv_aload_n hx hb dJ7_fill_d0a16_12 rfl (lv_at hl 2 rfl) ?_
      refine lv_iload_n hx hb dJ7_fill_d0a16_13 rfl (lv_at hl 0 rfl) ?_
      refine lv_lload_n hx hb dJ7_fill_d0a16_14 rfl (lv_at hl 3 rfl) ?_
      refine wy_last hx hb hK hP hD hS 0 2 rfl rfl (nI_in (show i < n by omega) hn) dJ7_fill_d0a16_15 (j := i) (nI_clamp (by omega)) rfl (fun H locs hP hD hS => ?_)
      refine lv_iinc (v := nI (i + 1)) (lv' := [(3, .int (nI (i + 1))), (4, .int (nI n)), (0, .ref h0), (1, .long v)]) hx hb dJ7_fill_d0a16_16 hl (k := 0) rfl (by rw [nI_succ]; rfl) (by decide) rfl (fun ls hl => ?_)
      refine lv_goto (tgt := 6) hx hb dJ7_fill_d0a16_19 (by decide) ?_
      refine ih (i + 1) _ H locs ls (by omega) (fun j hj => ?_) hP hD hS hl
      by_cases e : j = i
      · subst e; simp [vp_updL]
      · simp only [vp_updL, e, if_false]; exact hg j (by omega)
  refine lv_iconst (v := 0) hx hb dJ7_fill_d0a16_0 (by decide) ?_
  refine lv_istore_n (lv' := [(3, .int 0), (0, .ref h0), (1, .long v)]) hx hb dJ7_fill_d0a16_1 rfl hl (by decide) rfl (fun ls hl => ?_)
  refine lv_aload_n hx hb dJ7_fill_d0a16_2 rfl (lv_at hl 1 rfl) ?_
  refine va_alen (v := nI n) hx hb hK.1 hP 0 2 rfl rfl rfl dJ7_fill_d0a16_3 ?_
  refine lv_istore (lv' := [(4, .int (nI n)), (3, .int 0), (0, .ref h0), (1, .long v)]) hx hb dJ7_fill_d0a16_4 hl (by decide) rfl (fun ls hl => ?_)
  exact loop n 0 f s.heap [] ls (by omega) (fun j hj => absurd hj (Nat.not_lt_zero _)) hP hD hS (by rw [nI_0]; exact lv_sub hl [1, 0, 2, 3] rfl)
theorem lgc_lt {x y : Int64} : lg_cmp x y < 0 ↔ x < y := by
  unfold lg_cmp
  split
  · rename_i h
    exact ⟨fun q => absurd q (by decide), fun q => by have h : y < x := h; rw [Int64.lt_iff_toInt_lt] at *; omega⟩
  · rename_i h
    have h : ¬ y < x := h
    split
    · rename_i h2; subst h2
      exact ⟨fun q => absurd q (by decide), fun q => absurd q h⟩
    · rename_i h2
      refine ⟨fun _ => ?_, fun _ => by decide⟩
      rw [← Int64.toInt_inj] at h2
      rw [Int64.lt_iff_toInt_lt] at *
      omega
theorem lgc_gt {x y : Int64} : 0 < lg_cmp x y ↔ y < x := by
  unfold lg_cmp
  split
  · rename_i h
    exact ⟨fun _ => h, fun _ => by decide⟩
  · rename_i h
    have h : ¬ y < x := h
    split
    · exact ⟨fun q => absurd q (by decide), fun q => absurd q h⟩
    · exact ⟨fun q => absurd q (by decide), fun q => absurd q h⟩
theorem c_in (l : Launch) (D : va_G) (ty : Nat → ClassId) (sz : Nat) (k0 k1 k2 : Int64) : cQ l yX12_in cX12_in 6 (some .boolean) 0 0 [.long k0, .long k1, .long k2] D ty [] sz (qI (fun (r : Int32) (u : va_W) => ((k1 ≤ k0 ∧ k0 ≤ k2) ∧ 1 = r ∧ [] = u) ∨ ((¬ (k1 ≤ k0) ∨ ¬ (k0 ≤ k2)) ∧ 0 = r ∧ [] = u))) 0 0 := by
  refine cQ.of (by decide) (Nat.le_of_ble_eq_true rfl) (fun p e s m below meth c A ls C hsz hP hK hD hA hl => ?_)
  obtain ⟨hx, hb, hml, hown, hB, hr, hlocks, hin⟩ := C
  have hS : va_S A s.heap s.heap [] := va_S.rf
  have hl : lv_has ls 6 [(0, .long k0), (2, .long k1), (4, .long k2)] := hl
  refine lv_lload_n hx hb dX12_in_0 rfl (lv_at hl 0 rfl) ?_
  refine lv_lload_n hx hb dX12_in_1 rfl (lv_at hl 1 rfl) ?_
  refine W.lcmp hx hb dX12_in_2 ?_
  refine lv_if_lt (tgt := 17) hx hb dX12_in_3 (by decide) (fun h1 => ?_) (fun h1 => ?_)
  · rw [lgc_lt] at h1
    refine lv_iconst (v := 0) hx hb dX12_in_17 (by decide) ?_
    exact kr_z hx hb hr rfl hlocks hP hD hS [] [] (by decide) rfl (Or.inr ⟨Or.inl (by rw [Int64.lt_iff_toInt_lt] at h1; rw [Int64.le_iff_toInt_le]; omega), rfl, rfl⟩) (by decide) (by decide) dX12_in_18
  · rw [lgc_lt] at h1
    refine lv_lload_n hx hb dX12_in_6 rfl (lv_at hl 0 rfl) ?_
    refine lv_lload hx hb dX12_in_7 (lv_at hl 2 rfl) ?_
    refine W.lcmp hx hb dX12_in_9 ?_
    refine lv_if_gt (tgt := 17) hx hb dX12_in_10 (by decide) (fun h2 => ?_) (fun h2 => ?_)
    · rw [lgc_gt] at h2
      refine lv_iconst (v := 0) hx hb dX12_in_17 (by decide) ?_
      exact kr_z hx hb hr rfl hlocks hP hD hS [] [] (by decide) rfl (Or.inr ⟨Or.inr (by rw [Int64.lt_iff_toInt_lt] at h2; rw [Int64.le_iff_toInt_le]; omega), rfl, rfl⟩) (by decide) (by decide) dX12_in_18
    · rw [lgc_gt] at h2
      refine lv_iconst (v := 1) hx hb dX12_in_13 (by decide) ?_
      refine lv_goto (tgt := 18) hx hb dX12_in_14 (by decide) ?_
      exact kr_z hx hb hr rfl hlocks hP hD hS [] [] (by decide) rfl (Or.inl ⟨⟨by rw [Int64.lt_iff_toInt_lt] at h1; rw [Int64.le_iff_toInt_le]; omega, by rw [Int64.lt_iff_toInt_lt] at h2; rw [Int64.le_iff_toInt_le]; omega⟩, rfl, rfl⟩) (by decide) (by decide) dX12_in_18
set_option maxHeartbeats 4000000 in
theorem c_plain (l : Launch) (D : va_G) (ty : Nat → ClassId) (sz : Nat) (h0 : Nat) (f : Nat → Int32) : cQ l yX12_plain cX12_plain 2 none 0 0 [.ref h0] D ty [(h0, .inl (ty 1, 304, .inl f))] sz (qV (fun (u : va_W) => [(h0, .inl (ty 1, 304, .inl (upd (upd (kf 0) 1 2) 4 (-1))))] = u)) 0 0 := by
  refine cQ.of (by decide) (Nat.le_of_ble_eq_true rfl) (fun p e s m below meth c A ls C hsz hP hK hD hA hl => ?_)
  obtain ⟨hx, hb, hml, hown, hB, hr, hlocks, hin⟩ := C
  have hS : va_S A s.heap s.heap [] := va_S.rf
  have hl : lv_has ls 2 [(0, .ref h0)] := hl
  have loop : ∀ (k i : Nat) (g : Nat → Int32) (H : Heap) (locs : List Loc) (ls : Array Slot), i + k = 304 → (∀ j, j < i → g j = 0) → va_P D vwCl [(h0, .inl (ty 1, 304, .inl g))] H → va_D A [(h0, .inl (ty 1, 304, .inl g))] → va_S A s.heap H locs → lv_has ls 2 [(1, .int (nI i)), (0, .ref h0)] →
      W p l e ({ frames := 0, cells := 0, slots := 0, locals := 0 }) s m ([.ref h0] : List Value).toArray below meth c H locs 0 0 (MQ below (qV (fun (u : va_W) => [(h0, .inl (ty 1, 304, .inl (upd (upd (kf 0) 1 2) 4 (-1))))] = u) D A) ([.ref h0] : List Value).toArray s 0 0 A) (F0 m 2 ls []) := by
    intro k
    induction k with
    | zero =>
      intro i g H locs ls hi hg hP hD hS hl
      have e1 : i = 304 := by omega
      subst e1
      refine lv_iload_n hx hb dX12_plain_2 rfl (lv_at hl 0 rfl) ?_
      refine lv_sipush (v := 304) hx hb dX12_plain_3 (by decide) ?_
      refine lv_icmp_ge (tgt := 19) hx hb dX12_plain_6 (by decide) (fun _ => ?_) (fun h9 => absurd (by decide) h9)
      have hP := cx_P (q0 := 0) (y := (304, .inl (kf 0))) hP rfl (cx_i (fun j hj => hg j hj))
      have hD := cx_D (q0 := 0) (y := .inl (ty 1, 304, .inl (kf 0))) hD rfl
      have hP : va_P D vwCl [(h0, .inl (ty 1, 304, .inl (kf 0)))] H := hP
      have hD : va_D A [(h0, .inl (ty 1, 304, .inl (kf 0)))] := hD
      refine lv_aload_n hx hb dX12_plain_19 rfl (lv_at hl 1 rfl) ?_
      refine lv_iconst (v := 1) hx hb dX12_plain_20 (by decide) ?_
      refine lv_iconst (v := 2) hx hb dX12_plain_21 (by decide) ?_
      refine wy_iast hx hb hK hP hD hS 0 1 rfl rfl (by unfold vp_in; decide) dX12_plain_22 (j := 1) (by decide) (ws' := [(h0, .inl (ty 1, 304, .inl (upd (kf 0) 1 2)))]) rfl (fun H locs hP hD hS => ?_)
      refine lv_aload_n hx hb dX12_plain_23 rfl (lv_at hl 1 rfl) ?_
      refine lv_iconst (v := 4) hx hb dX12_plain_24 (by decide) ?_
      refine lv_iconst (v := (-1)) hx hb dX12_plain_25 (by decide) ?_
      refine wy_iast hx hb hK hP hD hS 0 1 rfl rfl (by unfold vp_in; decide) dX12_plain_26 (j := 4) (by decide) (ws' := [(h0, .inl (ty 1, 304, .inl (upd (upd (kf 0) 1 2) 4 (-1))))]) rfl (fun H locs hP hD hS => ?_)
      exact kr_v hx hb hr hlocks hP hD hS [(h0, .inl (ty 1, 304, .inl (upd (upd (kf 0) 1 2) 4 (-1))))] [0] (by decide) rfl rfl (by decide) (by decide) dX12_plain_27
    | succ k ih =>
      intro i g H locs ls hi hg hP hD hS hl
      refine lv_iload_n hx hb dX12_plain_2 rfl (lv_at hl 0 rfl) ?_
      refine lv_sipush (v := nI 304) hx hb dX12_plain_3 (by decide) ?_
      refine lv_icmp_ge (tgt := 19) hx hb dX12_plain_6 (by decide) (fun h9 => absurd h9 (nI_ge (show i < 304 by omega) (by decide))) (fun _ => ?_)
      refine lv_aload_n hx hb dX12_plain_9 rfl (lv_at hl 1 rfl) ?_
      refine lv_iload_n hx hb dX12_plain_10 rfl (lv_at hl 0 rfl) ?_
      refine lv_iconst (v := 0) hx hb dX12_plain_11 (by decide) ?_
      refine wy_iast hx hb hK hP hD hS 0 1 rfl rfl (nI_in (show i < 304 by omega) (by decide)) dX12_plain_12 (j := i) (nI_clamp (by omega)) rfl (fun H locs hP hD hS => ?_)
      refine lv_iinc (v := nI (i + 1)) (lv' := [(1, .int (nI (i + 1))), (0, .ref h0)]) hx hb dX12_plain_13 hl (k := 0) rfl (by rw [nI_succ]; rfl) (by decide) rfl (fun ls hl => ?_)
      refine lv_goto (tgt := 2) hx hb dX12_plain_16 (by decide) ?_
      refine ih (i + 1) _ H locs ls (by omega) (fun j hj => ?_) hP hD hS hl
      by_cases e : j = i
      · subst e; simp [upd]
      · simp only [upd, e, if_false]; exact hg j (by omega)
  refine lv_iconst (v := 0) hx hb dX12_plain_0 (by decide) ?_
  refine lv_istore_n (lv' := [(1, .int 0), (0, .ref h0)]) hx hb dX12_plain_1 rfl hl (by decide) rfl (fun ls hl => ?_)
  exact loop 304 0 f s.heap [] ls (by omega) (fun j hj => absurd hj (Nat.not_lt_zero _)) hP hD hS (by rw [nI_0]; exact hl)
