/-! the reference's three long loops -/
theorem mh_images : Cond.fieldLink RX12 17 "OneWaysModel" "images" "[I" ∈ bW := by decide +kernel
theorem mh_world : Cond.fieldLink RX12 13 "OneWaysModel" "world" "[I" ∈ bW := by decide +kernel
theorem mh_fresh : Cond.fieldLink RX12 34 "OneWaysModel" "fresh" "[I" ∈ bW := by decide +kernel
theorem mh_numbers : Cond.fieldLink RX12 85 "OneWaysModel" "numbers" "[J" ∈ bW := by decide +kernel
theorem nI_lin (a K i : Nat) : nI a * nI K + nI i = nI (a * K + i) := by
  unfold nI
  rw [Int32.ofNat_add, Int32.ofNat_mul]
section LPS
variable {p : Program} {l : Launch} {e : Env} {R : Room} {s : State} {m : MethodId} {args : Array Value} {below : List Frame} {meth : Method} {c : Code} {cells slots : Nat} {Q : State → Prop}
variable {D : va_G} {A : Nat → Prop} {ty : Nat → ClassId} {H0 : Heap}
set_option maxHeartbeats 4000000 in
/-- keep(k): images[304 * k + i] = world[i] -/
theorem lp_keep (hx : p.tables.exec = Jvm.exec) (hb : c.code = cX12_keep) (hown : s.vm.findClass RX12 = some m.cls) (hB : ∀ w ∈ bW, w.before args s = true) (hK : kK D ty s) (ws : (Nat → Int32) → va_W) (fs : List Value) (qt qi qw : Nat) {ht hi hw : Nat} {fw : Nat → Int32}
    (e0 : ∀ g, (ws g)[qt]? = some (ht, .inr (12, fs))) (f1 : fs[1]? = some (.ref hw)) (f2 : fs[2]? = some (.ref hi)) (e1 : ∀ g, (ws g)[qi]? = some (hi, .inl (ty 1, 912, .inl g))) (e2 : ∀ g, (ws g)[qw]? = some (hw, .inl (ty 1, 304, .inl fw))) (es : ∀ g g', (ws g).set qi (hi, .inl (ty 1, 912, .inl g')) = ws g')
    (kv : Int32) (K : Nat) (hk : kv = nI K) (hK3 : K < 3)
    (kk : ∀ (g : Nat → Int32) (xe : Int32) (H : Heap) (locs : List Loc) (ls : Array Slot), va_P D vwCl (ws g) H → va_D A (ws g) → va_S A H0 H locs → lv_has ls 3 [(2, .int xe), (0, .ref ht), (1, .int kv)] → W p l e R s m args below meth c H locs cells slots Q (F0 m 48 ls [])) :
    ∀ (k i : Nat) (xi : Int32) (g : Nat → Int32) (H : Heap) (locs : List Loc) (ls : Array Slot), i + k = 304 → xi = nI i → va_P D vwCl (ws g) H → va_D A (ws g) → va_S A H0 H locs → lv_has ls 3 [(2, .int xi), (0, .ref ht), (1, .int kv)] → W p l e R s m args below meth c H locs cells slots Q (F0 m 17 ls []) := by
  intro k
  induction k with
  | zero =>
    intro i xi g H locs ls hik hxi hP hD hS hl
    have e3 : i = 304 := by omega
    subst e3
    subst hxi
    refine lv_iload_n hx hb dX12_keep_17 rfl (lv_at hl 0 rfl) ?_
    refine lv_sipush (v := 304) hx hb dX12_keep_18 (by decide) ?_
    refine lv_icmp_ge (tgt := 48) hx hb dX12_keep_21 (by decide) (fun _ => ?_) (fun h9 => absurd (by decide) h9)
    exact kk g _ H locs ls hP hD hS hl
  | succ k ih =>
    intro i xi g H locs ls hik hxi hP hD hS hl
    refine lv_iload_n hx hb dX12_keep_17 rfl (lv_at hl 0 rfl) ?_
    refine lv_sipush (v := nI 304) hx hb dX12_keep_18 (by decide) ?_
    refine lv_icmp_ge (tgt := 48) hx hb dX12_keep_21 (by decide) (fun h9 => absurd h9 (by rw [hxi]; exact nI_ge (show i < 304 by omega) (by decide))) (fun _ => ?_)
    refine lv_aload_n hx hb dX12_keep_24 rfl (lv_at hl 1 rfl) ?_
    refine va_get (D := D) (ci := 12) (v := .ref hi) (C := RX12) (T := TX12) (N := 38) hx hb hB inB_X12 hown hK.1 hP qt (e0 g) rfl 2 (by decide) (hB _ mh_images) (fun _ h9 => h9) f2 dX12_keep_25 ?_
    refine lv_sipush (v := nI 304) hx hb dX12_keep_28 (by decide) ?_
    refine lv_iload_n hx hb dX12_keep_31 rfl (lv_at hl 2 rfl) ?_
    refine lv_imul hx hb dX12_keep_32 ?_
    refine lv_iload_n hx hb dX12_keep_33 rfl (lv_at hl 0 rfl) ?_
    refine lv_iadd hx hb dX12_keep_34 ?_
    refine tp_i (v := nI (304 * K + i)) (by rw [hk, hxi]; exact nI_lin 304 K i) ?_
    refine lv_aload_n hx hb dX12_keep_35 rfl (lv_at hl 1 rfl) ?_
    refine va_get (D := D) (ci := 12) (v := .ref hw) (C := RX12) (T := TX12) (N := 38) hx hb hB inB_X12 hown hK.1 hP qt (e0 g) rfl 1 (by decide) (hB _ mh_world) (fun _ h9 => h9) f1 dX12_keep_36 ?_
    refine lv_iload_n hx hb dX12_keep_39 rfl (lv_at hl 0 rfl) ?_
    refine va_iald hx hb hK.1 hP qw 1 (e2 g) rfl (by rw [hxi]; exact nI_in (show i < 304 by omega) (by decide)) dX12_keep_40 ?_
    refine wy_iast hx hb hK hP hD hS qi 1 (e1 g) rfl (nI_in (show 304 * K + i < 912 by omega) (by decide)) dX12_keep_41 (j := 304 * K + i) (nI_clamp (by omega)) (es _ _) (fun H locs hP hD hS => ?_)
    refine lv_iinc (v := nI (i + 1)) (lv' := [(2, .int (nI (i + 1))), (0, .ref ht), (1, .int kv)]) hx hb dX12_keep_42 hl (k := 0) rfl (by rw [nI_succ, hxi]; rfl) (by decide) rfl (fun ls hl => ?_)
    refine lv_goto (tgt := 17) hx hb dX12_keep_45 (by decide) ?_
    exact ih (i + 1) _ _ H locs ls (by omega) rfl hP hD hS hl
set_option maxHeartbeats 4000000 in
/-- text(): world[i] = fresh[i] -/
theorem lp_text (hx : p.tables.exec = Jvm.exec) (hb : c.code = cX12_text) (hown : s.vm.findClass RX12 = some m.cls) (hB : ∀ w ∈ bW, w.before args s = true) (hK : kK D ty s) (ws : (Nat → Int32) → va_W) (fs : List Value) (qt qw qf : Nat) {ht hw hf : Nat} {ff : Nat → Int32}
    (e0 : ∀ g, (ws g)[qt]? = some (ht, .inr (12, fs))) (f1 : fs[1]? = some (.ref hw)) (f2 : fs[14]? = some (.ref hf)) (e1 : ∀ g, (ws g)[qw]? = some (hw, .inl (ty 1, 304, .inl g))) (e2 : ∀ g, (ws g)[qf]? = some (hf, .inl (ty 1, 304, .inl ff))) (es : ∀ g g', (ws g).set qw (hw, .inl (ty 1, 304, .inl g')) = ws g')
    (kk : ∀ (xe : Int32) (H : Heap) (locs : List Loc) (ls : Array Slot), va_P D vwCl (ws ff) H → va_D A (ws ff) → va_S A H0 H locs → lv_has ls 3 [(1, .int xe), (0, .ref ht)] → W p l e R s m args below meth c H locs cells slots Q (F0 m 118 ls [])) :
    ∀ (k i : Nat) (xi : Int32) (g : Nat → Int32) (H : Heap) (locs : List Loc) (ls : Array Slot), i + k = 304 → xi = nI i → (∀ j, j < i → g j = ff j) → va_P D vwCl (ws g) H → va_D A (ws g) → va_S A H0 H locs → lv_has ls 3 [(1, .int xi), (0, .ref ht)] → W p l e R s m args below meth c H locs cells slots Q (F0 m 93 ls []) := by
  intro k
  induction k with
  | zero =>
    intro i xi g H locs ls hik hxi hg hP hD hS hl
    have e3 : i = 304 := by omega
    subst e3
    subst hxi
    refine lv_iload_n hx hb dX12_text_93 rfl (lv_at hl 0 rfl) ?_
    refine lv_sipush (v := 304) hx hb dX12_text_94 (by decide) ?_
    refine lv_icmp_ge (tgt := 118) hx hb dX12_text_97 (by decide) (fun _ => ?_) (fun h9 => absurd (by decide) h9)
    have hP2 := cx_P (q0 := qw) (y := (304, .inl ff)) hP (e1 g) (cx_i (fun j hj => hg j hj))
    have hD2 := cx_D (q0 := qw) (y := .inl (ty 1, 304, .inl ff)) hD (e1 g)
    rw [es] at hP2 hD2
    exact kk _ H locs ls hP2 hD2 hS hl
  | succ k ih =>
    intro i xi g H locs ls hik hxi hg hP hD hS hl
    refine lv_iload_n hx hb dX12_text_93 rfl (lv_at hl 0 rfl) ?_
    refine lv_sipush (v := nI 304) hx hb dX12_text_94 (by decide) ?_
    refine lv_icmp_ge (tgt := 118) hx hb dX12_text_97 (by decide) (fun h9 => absurd h9 (by rw [hxi]; exact nI_ge (show i < 304 by omega) (by decide))) (fun _ => ?_)
    refine lv_aload_n hx hb dX12_text_100 rfl (lv_at hl 1 rfl) ?_
    refine va_get (D := D) (ci := 12) (v := .ref hw) (C := RX12) (T := TX12) (N := 38) hx hb hB inB_X12 hown hK.1 hP qt (e0 g) rfl 1 (by decide) (hB _ mh_world) (fun _ h9 => h9) f1 dX12_text_101 ?_
    refine lv_iload_n hx hb dX12_text_104 rfl (lv_at hl 0 rfl) ?_
    refine lv_aload_n hx hb dX12_text_105 rfl (lv_at hl 1 rfl) ?_
    refine va_get (D := D) (ci := 12) (v := .ref hf) (C := RX12) (T := TX12) (N := 38) hx hb hB inB_X12 hown hK.1 hP qt (e0 g) rfl 14 (by decide) (hB _ mh_fresh) (fun _ h9 => h9) f2 dX12_text_106 ?_
    refine lv_iload_n hx hb dX12_text_109 rfl (lv_at hl 0 rfl) ?_
    refine va_iald hx hb hK.1 hP qf 1 (e2 g) rfl (by rw [hxi]; exact nI_in (show i < 304 by omega) (by decide)) dX12_text_110 ?_
    refine wy_iast hx hb hK hP hD hS qw 1 (e1 g) rfl (by rw [hxi]; exact nI_in (show i < 304 by omega) (by decide)) dX12_text_111 (j := i) (by rw [hxi]; exact nI_clamp (by omega)) (es _ _) (fun H locs hP hD hS => ?_)
    refine lv_iinc (v := nI (i + 1)) (lv' := [(1, .int (nI (i + 1))), (0, .ref ht)]) hx hb dX12_text_112 hl (k := 0) rfl (by rw [nI_succ, hxi]; rfl) (by decide) rfl (fun ls hl => ?_)
    refine lv_goto (tgt := 93) hx hb dX12_text_115 (by decide) ?_
    refine ih (i + 1) _ _ H locs ls (by omega) rfl (fun j hj => ?_) hP hD hS hl
    have hc : xi.toNatClampNeg = i := by rw [hxi]; exact nI_clamp (by omega)
    by_cases e4 : j = i
    · subst e4; simp [upd, hc]
    · simp only [upd, e4, if_false]; exact hg j (by omega)
set_option maxHeartbeats 4000000 in
/-- row(slot, w, n): numbers[60 * slot + i] = 0 -/
theorem lp_row (hx : p.tables.exec = Jvm.exec) (hb : c.code = cX12_row) (hown : s.vm.findClass RX12 = some m.cls) (hB : ∀ w ∈ bW, w.before args s = true) (hK : kK D ty s) (ws : (Nat → Int64) → va_W) (fs : List Value) (qt qi : Nat) {ht hi : Nat} {v2 v3 : Int32}
    (e0 : ∀ g, (ws g)[qt]? = some (ht, .inr (12, fs))) (f2 : fs[36]? = some (.ref hi)) (e1 : ∀ g, (ws g)[qi]? = some (hi, .inl (ty 2, 240, .inr (.inl g)))) (es : ∀ g g', (ws g).set qi (hi, .inl (ty 2, 240, .inr (.inl g'))) = ws g')
    (kv : Int32) (K : Nat) (hk : kv = nI K) (hK4 : K < 4)
    (kk : ∀ (g : Nat → Int64) (xe : Int32) (H : Heap) (locs : List Loc) (ls : Array Slot), va_P D vwCl (ws g) H → va_D A (ws g) → va_S A H0 H locs → lv_has ls 5 [(4, .int xe), (0, .ref ht), (1, .int kv), (2, .int v2), (3, .int v3)] → W p l e R s m args below meth c H locs cells slots Q (F0 m 78 ls [])) :
    ∀ (k i : Nat) (xi : Int32) (g : Nat → Int64) (H : Heap) (locs : List Loc) (ls : Array Slot), i + k = 60 → xi = nI i → va_P D vwCl (ws g) H → va_D A (ws g) → va_S A H0 H locs → lv_has ls 5 [(4, .int xi), (0, .ref ht), (1, .int kv), (2, .int v2), (3, .int v3)] → W p l e R s m args below meth c H locs cells slots Q (F0 m 52 ls []) := by
  intro k
  induction k with
  | zero =>
    intro i xi g H locs ls hik hxi hP hD hS hl
    have e3 : i = 60 := by omega
    subst e3
    subst hxi
    refine lv_iload hx hb dX12_row_52 (lv_at hl 0 rfl) ?_
    refine lv_bipush (v := 60) hx hb dX12_row_54 (by decide) ?_
    refine lv_icmp_ge (tgt := 78) hx hb dX12_row_56 (by decide) (fun _ => ?_) (fun h9 => absurd (by decide) h9)
    exact kk g _ H locs ls hP hD hS hl
  | succ k ih =>
    intro i xi g H locs ls hik hxi hP hD hS hl
    refine lv_iload hx hb dX12_row_52 (lv_at hl 0 rfl) ?_
    refine lv_bipush (v := nI 60) hx hb dX12_row_54 (by decide) ?_
    refine lv_icmp_ge (tgt := 78) hx hb dX12_row_56 (by decide) (fun h9 => absurd h9 (by rw [hxi]; exact nI_ge (show i < 60 by omega) (by decide))) (fun _ => ?_)
    refine lv_aload_n hx hb dX12_row_59 rfl (lv_at hl 1 rfl) ?_
    refine va_get (D := D) (ci := 12) (v := .ref hi) (C := RX12) (T := TX12) (N := 38) hx hb hB inB_X12 hown hK.1 hP qt (e0 g) rfl 36 (by decide) (hB _ mh_numbers) (fun _ h9 => h9) f2 dX12_row_60 ?_
    refine lv_bipush (v := nI 60) hx hb dX12_row_63 (by decide) ?_
    refine lv_iload_n hx hb dX12_row_65 rfl (lv_at hl 2 rfl) ?_
    refine lv_imul hx hb dX12_row_66 ?_
    refine lv_iload hx hb dX12_row_67 (lv_at hl 0 rfl) ?_
    refine lv_iadd hx hb dX12_row_69 ?_
    refine tp_i (v := nI (60 * K + i)) (by rw [hk, hxi]; exact nI_lin 60 K i) ?_
    refine lv_lconst (v := 0) hx hb dX12_row_70 (by decide) ?_
    refine wy_last hx hb hK hP hD hS qi 2 (e1 g) rfl (nI_in (show 60 * K + i < 240 by omega) (by decide)) dX12_row_71 (j := 60 * K + i) (nI_clamp (by omega)) (es _ _) (fun H locs hP hD hS => ?_)
    refine lv_iinc (v := nI (i + 1)) (lv' := [(4, .int (nI (i + 1))), (0, .ref ht), (1, .int kv), (2, .int v2), (3, .int v3)]) hx hb dX12_row_72 hl (k := 0) rfl (by rw [nI_succ, hxi]; rfl) (by decide) rfl (fun ls hl => ?_)
    refine lv_goto (tgt := 52) hx hb dX12_row_75 (by decide) ?_
    exact ih (i + 1) _ _ H locs ls (by omega) rfl hP hD hS hl
end LPS
