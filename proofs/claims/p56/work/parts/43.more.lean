/-! more rows over whole numbers: longs, bits, booleans, copies -/
theorem zL_lt {a b : Int} (ha : rI a) (hb : rI b) : Int32.toInt64 (zI a) < Int32.toInt64 (zI b) ↔ a < b := by rw [Int64.lt_iff_toInt_lt, Int32.toInt_toInt64, Int32.toInt_toInt64, zI_toInt ha, zI_toInt hb]
theorem zL_le {a b : Int} (ha : rI a) (hb : rI b) : Int32.toInt64 (zI a) ≤ Int32.toInt64 (zI b) ↔ a ≤ b := by rw [Int64.le_iff_toInt_le, Int32.toInt_toInt64, Int32.toInt_toInt64, zI_toInt ha, zI_toInt hb]
theorem zL_eq {a b : Int} (ha : rI a) (hb : rI b) : Int32.toInt64 (zI a) = Int32.toInt64 (zI b) ↔ a = b := by rw [← Int64.toInt_inj, Int32.toInt_toInt64, Int32.toInt_toInt64, zI_toInt ha, zI_toInt hb]
theorem lgc_z {a b : Int} (ha : rI a) (hb : rI b) : (lg_cmp (Int32.toInt64 (zI a)) (Int32.toInt64 (zI b)) < 0 ↔ a < b) ∧ (0 < lg_cmp (Int32.toInt64 (zI a)) (Int32.toInt64 (zI b)) ↔ b < a) := ⟨lgc_lt.trans (zL_lt ha hb), lgc_gt.trans (zL_lt hb ha)⟩
theorem i32_0 {x : Int32} : x = 0 ↔ ¬ x < 0 ∧ ¬ 0 < x := by
  rw [← Int32.toInt_inj, Int32.lt_iff_toInt_lt, Int32.lt_iff_toInt_lt]
  have : (0 : Int32).toInt = 0 := rfl
  omega
theorem i32_le0 {x : Int32} : x ≤ 0 ↔ ¬ 0 < x := by
  rw [Int32.le_iff_toInt_le, Int32.lt_iff_toInt_lt]; omega
theorem i32_0le {x : Int32} : 0 ≤ x ↔ ¬ x < 0 := by
  rw [Int32.le_iff_toInt_le, Int32.lt_iff_toInt_lt]; omega
theorem andc_ex (x : Int32) {c : Int} (h : 0 ≤ c ∧ c ≤ 65535) : ∃ z : Int, x &&& zI c = zI z ∧ 0 ≤ z ∧ z ≤ c := by
  refine ⟨(x &&& zI c).toInt, (Int32.ofInt_toInt _).symm, ?_⟩
  have e1 : (x &&& zI c).toBitVec.toNat ≤ (zI c).toBitVec.toNat := by
    rw [Int32.toBitVec_and, BitVec.toNat_and]
    exact Nat.and_le_right
  have e2 : (zI c).toBitVec.toNat = c.toNat := by
    show (BitVec.ofInt 32 c).toNat = c.toNat
    rw [BitVec.toNat_ofInt]
    congr 1
    omega
  have e3 : (x &&& zI c).toInt = ((x &&& zI c).toBitVec.toNat : Int) := by
    show (x &&& zI c).toBitVec.toInt = _
    rw [BitVec.toInt_eq_toNat_of_lt (by omega)]
  omega
theorem shl1_all : ∀ k : Fin 29, zI 1 <<< (zI (k.val : Int) &&& 31) = zI ((2 : Int) ^ k.val) := by decide +kernel
theorem shl1_ex {z : Int} {n : Nat} {u : Int} (hu : (2 : Int) ^ n = u) (hn : n ≤ 28) (h0 : 0 ≤ z) (h1 : z ≤ n) : ∃ w : Int, zI 1 <<< (zI z &&& 31) = zI w ∧ 1 ≤ w ∧ w ≤ u := by
  obtain ⟨k, rfl⟩ := Int.eq_ofNat_of_zero_le h0
  refine ⟨(2 : Int) ^ k, shl1_all ⟨k, by omega⟩, ?_, ?_⟩
  · have h9 : ((2 ^ k : Nat) : Int) = (2 : Int) ^ k := by push_cast; rfl
    have := Nat.two_pow_pos k
    omega
  · rw [← hu]
    exact_mod_cast Nat.pow_le_pow_right (by decide : 0 < 2) (show k ≤ n by omega)
theorem zI_div {x c : Int} (hx : rI x) (h0 : 0 ≤ x) (hc : 0 < c) (hc2 : c ≤ 65535) : zI x / zI c = zI (x / c) := by
  have hc3 : rI c := ⟨by omega, by omega⟩
  rw [← Int32.toInt_inj, Int32.toInt_div, zI_toInt hx, zI_toInt hc3, Int.tdiv_eq_ediv_of_nonneg h0]
  have h1 : 0 ≤ x / c := Int.ediv_nonneg h0 (by omega)
  have h2 : x / c ≤ x := Int.ediv_le_self _ h0
  rw [zI_toInt ⟨by omega, by omega⟩]
  exact Int.bmod_eq_of_le (by omega) (by omega)
theorem zI_rem {x c : Int} (hx : rI x) (h0 : 0 ≤ x) (hc : 0 < c) (hc2 : c ≤ 65535) : zI x - zI x / zI c * zI c = zI (x % c) := by
  rw [zI_div hx h0 hc hc2, zI_mul, zI_sub]
  congr 1
  have := Int.mul_ediv_add_emod x c
  rw [Int.mul_comm] at this
  omega
theorem nar_z {v : Int} (h : 0 ≤ v ∧ v ≤ 1) : vp_nar .boolean (zI v) = zI v := by
  rcases (show v = 0 ∨ v = 1 by omega) with rfl | rfl <;> rfl
theorem cpy_cI (F G : Nat → Int) (n : Nat) : va_cpy (cI F) (cI G) 0 0 n = cI (fun j => if j < n then F j else G j) := by
  funext j
  show (if 0 ≤ j ∧ j < 0 + n then zI (F (0 + (j - 0))) else zI (G j)) = zI (if j < n then F j else G j)
  by_cases h : j < n
  · rw [if_pos ⟨Nat.zero_le _, by omega⟩, if_pos h]; congr 2; omega
  · rw [if_neg (fun q => h (by omega)), if_neg h]
section MOR
variable {p : Program} {l : Launch} {e : Env} {R : Room} {s : State} {m : MethodId} {args : Array Value} {below : List Frame} {meth : Method} {c : Code} {H : Heap} {locs : List Loc} {cells slots : Nat} {Q : State → Prop}
variable {cc : ByteArray} {pc : Nat} {ls : Array Slot} {rest : List Value} {D : va_G} {A : Nat → Prop} {a : Nat} {ty : Nat → ClassId} {ws : va_W} {H0 : Heap}
theorem rl_lt (hx : p.tables.exec = Jvm.exec) (hb : c.code = cc) {x y : Int} {off : Int} {tgt : Nat} (hdg : decode cc pc = .ok (.lcmp, 1)) (hd2 : decode cc (pc + 1) = .ok (.ifCond .lt off, 3)) (ht : ((pc + 1 : Nat) : Int) + off = (tgt : Int)) (rx : rI x) (ry : rI y) (kt : x < y → W p l e R s m args below meth c H locs cells slots Q (F0 m tgt ls rest)) (kf : y ≤ x → W p l e R s m args below meth c H locs cells slots Q (F0 m (pc + 1 + 3) ls rest)) : W p l e R s m args below meth c H locs cells slots Q (F0 m pc ls (.long (Int32.toInt64 (zI y)) :: .long (Int32.toInt64 (zI x)) :: rest)) :=
  W.lcmp hx hb hdg (lv_if_lt hx hb hd2 ht (fun h => kt ((lgc_z rx ry).1.mp h)) (fun h => kf (Int.not_lt.mp (fun q => h ((lgc_z rx ry).1.mpr q)))))
theorem rl_ge (hx : p.tables.exec = Jvm.exec) (hb : c.code = cc) {x y : Int} {off : Int} {tgt : Nat} (hdg : decode cc pc = .ok (.lcmp, 1)) (hd2 : decode cc (pc + 1) = .ok (.ifCond .ge off, 3)) (ht : ((pc + 1 : Nat) : Int) + off = (tgt : Int)) (rx : rI x) (ry : rI y) (kt : y ≤ x → W p l e R s m args below meth c H locs cells slots Q (F0 m tgt ls rest)) (kf : x < y → W p l e R s m args below meth c H locs cells slots Q (F0 m (pc + 1 + 3) ls rest)) : W p l e R s m args below meth c H locs cells slots Q (F0 m pc ls (.long (Int32.toInt64 (zI y)) :: .long (Int32.toInt64 (zI x)) :: rest)) :=
  W.lcmp hx hb hdg (lv_if_ge hx hb hd2 ht (fun h => kt (Int.not_lt.mp (fun q => i32_0le.mp h ((lgc_z rx ry).1.mpr q)))) (fun h => kf (Int.not_le.mp (fun q => h (i32_0le.mpr (fun r => Int.not_lt.mpr q ((lgc_z rx ry).1.mp r)))))))
theorem rl_gt (hx : p.tables.exec = Jvm.exec) (hb : c.code = cc) {x y : Int} {off : Int} {tgt : Nat} (hdg : decode cc pc = .ok (.lcmp, 1)) (hd2 : decode cc (pc + 1) = .ok (.ifCond .gt off, 3)) (ht : ((pc + 1 : Nat) : Int) + off = (tgt : Int)) (rx : rI x) (ry : rI y) (kt : y < x → W p l e R s m args below meth c H locs cells slots Q (F0 m tgt ls rest)) (kf : x ≤ y → W p l e R s m args below meth c H locs cells slots Q (F0 m (pc + 1 + 3) ls rest)) : W p l e R s m args below meth c H locs cells slots Q (F0 m pc ls (.long (Int32.toInt64 (zI y)) :: .long (Int32.toInt64 (zI x)) :: rest)) :=
  W.lcmp hx hb hdg (lv_if_gt hx hb hd2 ht (fun h => kt ((lgc_z rx ry).2.mp h)) (fun h => kf (Int.not_lt.mp (fun q => h ((lgc_z rx ry).2.mpr q)))))
theorem rl_le (hx : p.tables.exec = Jvm.exec) (hb : c.code = cc) {x y : Int} {off : Int} {tgt : Nat} (hdg : decode cc pc = .ok (.lcmp, 1)) (hd2 : decode cc (pc + 1) = .ok (.ifCond .le off, 3)) (ht : ((pc + 1 : Nat) : Int) + off = (tgt : Int)) (rx : rI x) (ry : rI y) (kt : x ≤ y → W p l e R s m args below meth c H locs cells slots Q (F0 m tgt ls rest)) (kf : y < x → W p l e R s m args below meth c H locs cells slots Q (F0 m (pc + 1 + 3) ls rest)) : W p l e R s m args below meth c H locs cells slots Q (F0 m pc ls (.long (Int32.toInt64 (zI y)) :: .long (Int32.toInt64 (zI x)) :: rest)) :=
  W.lcmp hx hb hdg (lv_if_le hx hb hd2 ht (fun h => kt (Int.not_lt.mp (fun q => i32_le0.mp h ((lgc_z rx ry).2.mpr q)))) (fun h => kf (Int.not_le.mp (fun q => h (i32_le0.mpr (fun r => Int.not_lt.mpr q ((lgc_z rx ry).2.mp r)))))))
theorem rl_eq (hx : p.tables.exec = Jvm.exec) (hb : c.code = cc) {x y : Int} {off : Int} {tgt : Nat} (hdg : decode cc pc = .ok (.lcmp, 1)) (hd2 : decode cc (pc + 1) = .ok (.ifCond .eq off, 3)) (ht : ((pc + 1 : Nat) : Int) + off = (tgt : Int)) (rx : rI x) (ry : rI y) (kt : x = y → W p l e R s m args below meth c H locs cells slots Q (F0 m tgt ls rest)) (kf : ¬ x = y → W p l e R s m args below meth c H locs cells slots Q (F0 m (pc + 1 + 3) ls rest)) : W p l e R s m args below meth c H locs cells slots Q (F0 m pc ls (.long (Int32.toInt64 (zI y)) :: .long (Int32.toInt64 (zI x)) :: rest)) :=
  W.lcmp hx hb hdg (lv_if_eq hx hb hd2 ht (fun h => kt (by have h := i32_0.mp h; rw [(lgc_z rx ry).1, (lgc_z rx ry).2] at h; omega)) (fun h => kf (fun q => h (i32_0.mpr (by rw [(lgc_z rx ry).1, (lgc_z rx ry).2]; omega)))))
theorem rl_ne (hx : p.tables.exec = Jvm.exec) (hb : c.code = cc) {x y : Int} {off : Int} {tgt : Nat} (hdg : decode cc pc = .ok (.lcmp, 1)) (hd2 : decode cc (pc + 1) = .ok (.ifCond .ne off, 3)) (ht : ((pc + 1 : Nat) : Int) + off = (tgt : Int)) (rx : rI x) (ry : rI y) (kt : ¬ x = y → W p l e R s m args below meth c H locs cells slots Q (F0 m tgt ls rest)) (kf : x = y → W p l e R s m args below meth c H locs cells slots Q (F0 m (pc + 1 + 3) ls rest)) : W p l e R s m args below meth c H locs cells slots Q (F0 m pc ls (.long (Int32.toInt64 (zI y)) :: .long (Int32.toInt64 (zI x)) :: rest)) :=
  W.lcmp hx hb hdg (lv_if_ne hx hb hd2 ht (fun h => kt (fun q => h (i32_0.mpr (by rw [(lgc_z rx ry).1, (lgc_z rx ry).2]; omega)))) (fun h => kf (by have h := i32_0.mp h; rw [(lgc_z rx ry).1, (lgc_z rx ry).2] at h; omega)))
theorem ri_anyL {x : Int64} (k : ∀ g : Int64, W p l e R s m args below meth c H locs cells slots Q (F0 m pc ls (.long g :: rest))) : W p l e R s m args below meth c H locs cells slots Q (F0 m pc ls (.long x :: rest)) := k x
theorem ri_andc {x : Int32} {c0 : Int} (h : 0 ≤ c0 ∧ c0 ≤ 65535) (k : ∀ z : Int, (0 ≤ z ∧ z ≤ c0) → W p l e R s m args below meth c H locs cells slots Q (F0 m pc ls (.int (zI z) :: rest))) : W p l e R s m args below meth c H locs cells slots Q (F0 m pc ls (.int (x &&& zI c0) :: rest)) := by
  obtain ⟨z, h1, h2⟩ := andc_ex x h
  rw [h1]
  exact k z h2
theorem ri_andz (hx : p.tables.exec = Jvm.exec) (hb : c.code = cc) {x c0 : Int} (hdg : decode cc pc = .ok (.iand, 1)) (h : 0 ≤ c0 ∧ c0 ≤ 65535) (rx : rI x) (k : ∀ z : Int, (0 ≤ z ∧ z ≤ c0) ∧ (x = 0 → z = 0) → W p l e R s m args below meth c H locs cells slots Q (F0 m (pc + 1) ls (.int (zI z) :: rest))) : W p l e R s m args below meth c H locs cells slots Q (F0 m pc ls (.int (zI c0) :: .int (zI x) :: rest)) := by
  refine lv_iand hx hb hdg ?_
  obtain ⟨z, h1, h2⟩ := andc_ex (zI x) h
  rw [h1]
  refine k z ⟨h2, fun q => ?_⟩
  subst q
  have h3 : zI 0 &&& zI c0 = zI 0 := Int32.zero_and
  rw [h3, zI_eq ⟨by omega, by omega⟩ ⟨by omega, by omega⟩] at h1
  exact h1.symm
theorem ri_shr (hx : p.tables.exec = Jvm.exec) (hb : c.code = cc) {x y : Int} (hdg : decode cc pc = .ok (.ishr, 1)) (k : ∀ z : Int, (-2147483648 ≤ z ∧ z ≤ 2147483647) ∧ (x = 0 → z = 0) → W p l e R s m args below meth c H locs cells slots Q (F0 m (pc + 1) ls (.int (zI z) :: rest))) : W p l e R s m args below meth c H locs cells slots Q (F0 m pc ls (.int (zI y) :: .int (zI x) :: rest)) := by
  refine lv_ishr hx hb hdg ?_
  obtain ⟨z, h1, h2⟩ := zI_ex (zI x >>> (zI y &&& 31))
  have h2 : -2147483648 ≤ z ∧ z < 2147483648 := h2
  rw [h1]
  refine k z ⟨⟨h2.1, by omega⟩, fun q => ?_⟩
  subst q
  have h3 : zI 0 >>> (zI y &&& 31) = zI 0 := Int32.zero_shiftRight
  rw [h3, zI_eq ⟨by omega, by omega⟩ h2] at h1
  exact h1.symm
theorem ri_shl1 {z : Int} (n : Nat) {u : Int} (hu : (2 : Int) ^ n = u) (hn : n ≤ 28) (h0 : 0 ≤ z) (h1 : z ≤ n) (k : ∀ w : Int, (1 ≤ w ∧ w ≤ u) → W p l e R s m args below meth c H locs cells slots Q (F0 m pc ls (.int (zI w) :: rest))) : W p l e R s m args below meth c H locs cells slots Q (F0 m pc ls (.int (zI 1 <<< (zI z &&& 31)) :: rest)) := by
  obtain ⟨w, e1, e2⟩ := shl1_ex hu hn h0 h1
  rw [e1]
  exact k w e2
theorem ri_div (hx : p.tables.exec = Jvm.exec) (hb : c.code = cc) {x c0 : Int} (hdg : decode cc pc = .ok (.idiv, 1)) (hc : 0 < c0) (hc2 : c0 ≤ 65535) (h0 : 0 ≤ x) (hr : rI x) (k : ∀ z : Int, (z = x / c0) → W p l e R s m args below meth c H locs cells slots Q (F0 m (pc + 1) ls (.int (zI z) :: rest))) : W p l e R s m args below meth c H locs cells slots Q (F0 m pc ls (.int (zI c0) :: .int (zI x) :: rest)) := by
  refine lv_idiv hx hb hdg (fun q => ?_) (by rw [zI_div hr h0 hc hc2]; exact k _ rfl)
  rw [show (0 : Int32) = zI 0 from rfl, zI_eq ⟨by omega, by omega⟩ ⟨by omega, by omega⟩] at q
  omega
theorem ri_rem (hx : p.tables.exec = Jvm.exec) (hb : c.code = cc) {x c0 : Int} (hdg : decode cc pc = .ok (.irem, 1)) (hc : 0 < c0) (hc2 : c0 ≤ 65535) (h0 : 0 ≤ x) (hr : rI x) (k : ∀ z : Int, (z = x % c0) → W p l e R s m args below meth c H locs cells slots Q (F0 m (pc + 1) ls (.int (zI z) :: rest))) : W p l e R s m args below meth c H locs cells slots Q (F0 m pc ls (.int (zI c0) :: .int (zI x) :: rest)) := by
  refine lv_irem hx hb hdg (fun q => ?_) (by rw [zI_rem hr h0 hc hc2]; exact k _ rfl)
  rw [show (0 : Int32) = zI 0 from rfl, zI_eq ⟨by omega, by omega⟩ ⟨by omega, by omega⟩] at q
  omega
theorem ri_zald (hx : p.tables.exec = Jvm.exec) (hb : c.code = cc) (hK : kK D ty s) (hP : va_P D vwCl ws H) (q0 : Nat) {n : Nat} {F : Nat → Int} (ha : ws[q0]? = some (a, .inl (ty 3, n, .inl (cI F)))) {z : Int} (h0 : 0 ≤ z) (h1 : z < n) (hn : n ≤ 2147483648) (hdg : decode cc pc = .ok (.baload, 1))
    (kk : W p l e R s m args below meth c H locs cells slots Q (F0 m (pc + 1) ls (.int (zI (F z.toNat)) :: rest))) : W p l e R s m args below meth c H locs cells slots Q (F0 m pc ls (.int (zI z) :: .ref a :: rest)) := by
  refine va_zald hx hb hK.1 hP q0 3 ha rfl (zI_in h0 h1 hn) hdg ?_
  rw [zI_clamp h0 (by omega)]
  exact kk
theorem ri_bald (hx : p.tables.exec = Jvm.exec) (hb : c.code = cc) (hK : kK D ty s) (hP : va_P D vwCl ws H) (q0 : Nat) {n : Nat} {F : Nat → Int} (ha : ws[q0]? = some (a, .inl (ty 0, n, .inl (cI F)))) {z : Int} (h0 : 0 ≤ z) (h1 : z < n) (hn : n ≤ 2147483648) (hdg : decode cc pc = .ok (.baload, 1))
    (kk : W p l e R s m args below meth c H locs cells slots Q (F0 m (pc + 1) ls (.int (zI (F z.toNat)) :: rest))) : W p l e R s m args below meth c H locs cells slots Q (F0 m pc ls (.int (zI z) :: .ref a :: rest)) := by
  refine va_bald hx hb hK.1 hP q0 0 ha rfl (zI_in h0 h1 hn) hdg ?_
  rw [zI_clamp h0 (by omega)]
  exact kk
theorem ri_bast (hx : p.tables.exec = Jvm.exec) (hb : c.code = cc) (hK : kK D ty s) (hP : va_P D vwCl ws H) (hD : va_D A ws) (hS : va_S A H0 H locs) (q0 : Nat) {n : Nat} {F : Nat → Int} (ha : ws[q0]? = some (a, .inl (ty 0, n, .inl (cI F)))) {z v : Int} (h0 : 0 ≤ z) (h1 : z < n) (hn : n ≤ 2147483648) (hF : rng F n (-128) 127) (hdg : decode cc pc = .ok (.bastore, 1))
    (kk : ∀ (v1 : Int) (h1 : rng (uZ F z.toNat v1) n (-128) 127) (H1 : Heap) (locs1 : List Loc), va_P D vwCl (ws.set q0 (a, .inl (ty 0, n, .inl (cI (uZ F z.toNat v1))))) H1 → va_D A (ws.set q0 (a, .inl (ty 0, n, .inl (cI (uZ F z.toNat v1))))) → va_S A H0 H1 locs1 → W p l e R s m args below meth c H1 locs1 cells slots Q (F0 m (pc + 1) ls rest)) : W p l e R s m args below meth c H locs cells slots Q (F0 m pc ls (.int (zI v) :: .int (zI z) :: .ref a :: rest)) := by
  obtain ⟨v1, e1, e2⟩ := zI_ex (vp_nar .byte (zI v))
  have e3 : (vp_nar .byte (zI v)).toInt = (zI v).toInt8.toInt := Int8.toInt_toInt32 _
  rw [e1, zI_toInt e2] at e3
  have e4 := Int8.le_toInt (zI v).toInt8
  have e5 := Int8.toInt_lt (zI v).toInt8
  refine wy_bast hx hb hK hP hD hS q0 0 ha rfl (zI_in h0 h1 hn) hdg (zI_clamp h0 (by omega)) e1 rfl (fun H1 locs1 k1 k2 k3 => ?_)
  rw [uZ_cI] at k1 k2
  exact kk v1 (rng.up hF (by omega) (by omega)) H1 locs1 k1 k2 k3
theorem ri_zast (hx : p.tables.exec = Jvm.exec) (hb : c.code = cc) (hK : kK D ty s) (hP : va_P D vwCl ws H) (hD : va_D A ws) (hS : va_S A H0 H locs) (q0 : Nat) {n : Nat} {F : Nat → Int} (ha : ws[q0]? = some (a, .inl (ty 3, n, .inl (cI F)))) {z v : Int} (h0 : 0 ≤ z) (h1 : z < n) (hn : n ≤ 2147483648) (hv : 0 ≤ v ∧ v ≤ 1) (hdg : decode cc pc = .ok (.bastore, 1)) {ws' : va_W} (hws : ws.set q0 (a, .inl (ty 3, n, .inl (cI (uZ F z.toNat v)))) = ws')
    (kk : ∀ (H1 : Heap) (locs1 : List Loc), va_P D vwCl ws' H1 → va_D A ws' → va_S A H0 H1 locs1 → W p l e R s m args below meth c H1 locs1 cells slots Q (F0 m (pc + 1) ls rest)) : W p l e R s m args below meth c H locs cells slots Q (F0 m pc ls (.int (zI v) :: .int (zI z) :: .ref a :: rest)) := by
  refine wy_zast hx hb hK hP hD hS q0 3 ha rfl (zI_in h0 h1 hn) hdg (zI_clamp h0 (by omega)) (nar_z hv) ?_ kk
  rw [uZ_cI]
  exact hws
theorem ri_copyR (hx : p.tables.exec = Jvm.exec) (hb : c.code = cc) (hml : c.maxLocals = ls.size) {own : String} {index : Nat} (hown : s.vm.findClass own = some m.cls) (hlink : (Cond.methodLink own index arraycopyName).before args s = true) (hnat : (Cond.native arraycopyName).before args s = true) (hstat : (Cond.static arraycopyName).before args s = true) (hini : (Cond.initialized "java/lang/System").before args s = true)
    (hK : kK D ty s) (hP : va_P D vwCl ws H) (hD : va_D A ws) (hS : va_S A H0 H locs) (q0 q1 : Nat) {a0 n0 : Nat} {F G : Nat → Int} (ha0 : ws[q0]? = some (a0, .inl (ty 1, n0, .inl (cI F)))) (ha1 : ws[q1]? = some (a, .inl (ty 1, n0, .inl (cI G)))) {n lo hi : Int} (hn : n = (n0 : Int)) (hn2 : n0 ≤ 65535) (hF : rng F n0 lo hi)
    (hframes : 1 ≤ R.frames) (hlocals : (rest.map fun v => v.category).sum + (nativeFrameWords "java/lang/System" "arraycopy" 5 + 11) ≤ R.locals) (hdg : decode cc pc = .ok (.invokestatic index, 3))
    (kk : ∀ (F1 : Nat → Int) (h1 : rng F1 n0 lo hi) (H1 : Heap) (locs1 : List Loc), va_P D vwCl (ws.set q1 (a, .inl (ty 1, n0, .inl (cI F1)))) H1 → va_D A (ws.set q1 (a, .inl (ty 1, n0, .inl (cI F1)))) → va_S A H0 H1 locs1 → W p l e R s m args below meth c H1 locs1 cells slots Q (F0 m (pc + 3) ls rest)) : W p l e R s m args below meth c H locs cells slots Q (F0 m pc ls (.int (zI n) :: .int (zI 0) :: .ref a :: .int (zI 0) :: .ref a0 :: rest)) := by
  have hc : (zI n).toNatClampNeg = n0 := by rw [zI_clamp (by omega) (by omega)]; omega
  have h0 : (zI 0).toNatClampNeg = 0 := by decide
  have hneg : ¬ zI n < 0 := by rw [show (0 : Int32) = zI 0 from rfl, zI_lt ⟨by omega, by omega⟩ ⟨by omega, by omega⟩]; omega
  refine va_copyi hx hb hml hown hlink hnat hstat hini hK.1 hP hD hS q0 q1 1 1 ha0 ha1 rfl rfl rfl (by decide) (by decide) hneg (by rw [hc, h0]; omega) (by rw [hc, h0]; omega) (fun i _ => rfl) hframes hlocals hdg (fun H1 locs1 k1 k2 k3 => ?_)
  rw [hc, h0, cpy_cI] at k1 k2
  exact kk _ (fun j hj => by show lo ≤ (if j < n0 then F j else G j) ∧ (if j < n0 then F j else G j) ≤ hi; rw [if_pos hj]; exact hF j hj) H1 locs1 k1 k2 k3
theorem ri_copyU (hx : p.tables.exec = Jvm.exec) (hb : c.code = cc) (hml : c.maxLocals = ls.size) {own : String} {index : Nat} (hown : s.vm.findClass own = some m.cls) (hlink : (Cond.methodLink own index arraycopyName).before args s = true) (hnat : (Cond.native arraycopyName).before args s = true) (hstat : (Cond.static arraycopyName).before args s = true) (hini : (Cond.initialized "java/lang/System").before args s = true)
    (hK : kK D ty s) (hP : va_P D vwCl ws H) (hD : va_D A ws) (hS : va_S A H0 H locs) (q0 q1 : Nat) {a0 n0 : Nat} {f g : Nat → Int32} (ha0 : ws[q0]? = some (a0, .inl (ty 1, n0, .inl f))) (ha1 : ws[q1]? = some (a, .inl (ty 1, n0, .inl g))) {n : Int} (hn : n = (n0 : Int)) (hn2 : n0 ≤ 65535)
    (hframes : 1 ≤ R.frames) (hlocals : (rest.map fun v => v.category).sum + (nativeFrameWords "java/lang/System" "arraycopy" 5 + 11) ≤ R.locals) (hdg : decode cc pc = .ok (.invokestatic index, 3))
    (kk : ∀ (f1 : Nat → Int32) (H1 : Heap) (locs1 : List Loc), va_P D vwCl (ws.set q1 (a, .inl (ty 1, n0, .inl f1))) H1 → va_D A (ws.set q1 (a, .inl (ty 1, n0, .inl f1))) → va_S A H0 H1 locs1 → W p l e R s m args below meth c H1 locs1 cells slots Q (F0 m (pc + 3) ls rest)) : W p l e R s m args below meth c H locs cells slots Q (F0 m pc ls (.int (zI n) :: .int (zI 0) :: .ref a :: .int (zI 0) :: .ref a0 :: rest)) := by
  have hc : (zI n).toNatClampNeg = n0 := by rw [zI_clamp (by omega) (by omega)]; omega
  have h0 : (zI 0).toNatClampNeg = 0 := by decide
  have hneg : ¬ zI n < 0 := by rw [show (0 : Int32) = zI 0 from rfl, zI_lt ⟨by omega, by omega⟩ ⟨by omega, by omega⟩]; omega
  exact va_copyi hx hb hml hown hlink hnat hstat hini hK.1 hP hD hS q0 q1 1 1 ha0 ha1 rfl rfl rfl (by decide) (by decide) hneg (by rw [hc, h0]; omega) (by rw [hc, h0]; omega) (fun i _ => rfl) hframes hlocals hdg (fun H1 locs1 k1 k2 k3 => kk _ H1 locs1 k1 k2 k3)
theorem ri_copyJ (hx : p.tables.exec = Jvm.exec) (hb : c.code = cc) (hml : c.maxLocals = ls.size) {own : String} {index : Nat} (hown : s.vm.findClass own = some m.cls) (hlink : (Cond.methodLink own index arraycopyName).before args s = true) (hnat : (Cond.native arraycopyName).before args s = true) (hstat : (Cond.static arraycopyName).before args s = true) (hini : (Cond.initialized "java/lang/System").before args s = true)
    (hK : kK D ty s) (hP : va_P D vwCl ws H) (hD : va_D A ws) (hS : va_S A H0 H locs) (q0 q1 : Nat) {a0 n0 n1 : Nat} {f g : Nat → Int64} (ha0 : ws[q0]? = some (a0, .inl (ty 2, n0, .inr (.inl f)))) (ha1 : ws[q1]? = some (a, .inl (ty 2, n1, .inr (.inl g)))) {sp dp n : Int} (h1 : 0 ≤ sp) (h2 : 0 ≤ dp) (h3 : 0 ≤ n) (h4 : sp + n ≤ n0) (h5 : dp + n ≤ n1) (h6 : (n0 : Int) ≤ 65535) (h7 : (n1 : Int) ≤ 65535)
    (hframes : 1 ≤ R.frames) (hlocals : (rest.map fun v => v.category).sum + (nativeFrameWords "java/lang/System" "arraycopy" 5 + 11) ≤ R.locals) (hdg : decode cc pc = .ok (.invokestatic index, 3))
    (kk : ∀ (f1 : Nat → Int64) (H1 : Heap) (locs1 : List Loc), va_P D vwCl (ws.set q1 (a, .inl (ty 2, n1, .inr (.inl f1)))) H1 → va_D A (ws.set q1 (a, .inl (ty 2, n1, .inr (.inl f1)))) → va_S A H0 H1 locs1 → W p l e R s m args below meth c H1 locs1 cells slots Q (F0 m (pc + 3) ls rest)) : W p l e R s m args below meth c H locs cells slots Q (F0 m pc ls (.int (zI n) :: .int (zI dp) :: .ref a :: .int (zI sp) :: .ref a0 :: rest)) := by
  have nn : ∀ z : Int, 0 ≤ z → z ≤ 65535 → ¬ zI z < 0 := by
    intro z q1 q2
    rw [show (0 : Int32) = zI 0 from rfl, zI_lt ⟨by omega, by omega⟩ ⟨by omega, by omega⟩]; omega
  have c1 := zI_clamp (z := sp) (by omega) (by omega)
  have c2 := zI_clamp (z := dp) (by omega) (by omega)
  have c3 := zI_clamp (z := n) (by omega) (by omega)
  exact va_copyl hx hb hml hown hlink hnat hstat hini hK.1 hP hD hS q0 q1 2 2 ha0 ha1 rfl rfl rfl (nn sp (by omega) (by omega)) (nn dp (by omega) (by omega)) (nn n (by omega) (by omega)) (by rw [c1, c3]; omega) (by rw [c2, c3]; omega) (fun i _ => rfl) hframes hlocals hdg (fun H1 locs1 k1 k2 k3 => kk _ H1 locs1 k1 k2 k3)
end MOR
theorem g_inZ (l : Launch) (D : va_G) (ty : Nat → ClassId) (sz : Nat) (z0 z1 z2 : Int) (b0 : -2147483648 ≤ z0 ∧ z0 ≤ 2147483647) (b1 : -2147483648 ≤ z1 ∧ z1 ≤ 2147483647) (b2 : -2147483648 ≤ z2 ∧ z2 ≤ 2147483647) : cQ l yX12_in cX12_in 6 (some .boolean) 0 0 [.long (Int32.toInt64 (zI z0)), .long (Int32.toInt64 (zI z1)), .long (Int32.toInt64 (zI z2))] D ty [] sz (qI (fun (r : Int32) (u : va_W) => ((((z0 : Int) < z1) ∨ ((z2 : Int) < z0)) ∧ zI 0 = r ∧ [] = u) ∨ ((((z1 : Int) ≤ z0) ∧ ((z0 : Int) ≤ z2)) ∧ zI 1 = r ∧ [] = u))) 0 0 := by
  have h := c_in l D ty sz (Int32.toInt64 (zI z0)) (Int32.toInt64 (zI z1)) (Int32.toInt64 (zI z2))
  rw [zL_le ⟨by omega, by omega⟩ ⟨by omega, by omega⟩, zL_le ⟨by omega, by omega⟩ ⟨by omega, by omega⟩] at h
  refine cast (congrArg (fun post => cQ l yX12_in cX12_in 6 (some .boolean) 0 0 [.long (Int32.toInt64 (zI z0)), .long (Int32.toInt64 (zI z1)), .long (Int32.toInt64 (zI z2))] D ty [] sz (qI post) 0 0) ?_) h
  funext r u
  have e1 : (1 : Int32) = zI 1 := rfl
  have e0 : (0 : Int32) = zI 0 := rfl
  rw [e1, e0]
  apply propext
  constructor
  · rintro (⟨h1, h2⟩ | ⟨h1, h2⟩)
    · exact Or.inr ⟨h1, h2⟩
    · exact Or.inl ⟨by omega, h2⟩
  · rintro (⟨h1, h2⟩ | ⟨h1, h2⟩)
    · exact Or.inr ⟨by omega, h2⟩
    · exact Or.inl ⟨h1, h2⟩
theorem g_inU (l : Launch) (D : va_G) (ty : Nat → ClassId) (sz : Nat) (k0 k1 k2 : Int64) : cQ l yX12_in cX12_in 6 (some .boolean) 0 0 [.long k0, .long k1, .long k2] D ty [] sz (qI (fun (r : Int32) (u : va_W) => ∃ (y : Int), (0 ≤ y ∧ y ≤ 1) ∧ zI y = r ∧ [] = u)) 0 0 := by
  refine cQ.of (by decide) (Nat.le_of_ble_eq_true rfl) (fun p e s m below meth c A ls C hsz hP hK hD hA hl => ?_)
  obtain ⟨hx, hb, hml, hown, hB, hr, hlocks, hin⟩ := C
  have hS : va_S A s.heap s.heap [] := va_S.rf
  have hl : lv_has ls 6 [(0, .long k0), (2, .long k1), (4, .long k2)] := hl
  refine lv_lload_n hx hb dX12_in_0 rfl (lv_at hl 0 rfl) ?_
  refine lv_lload_n hx hb dX12_in_1 rfl (lv_at hl 1 rfl) ?_
  refine W.lcmp hx hb dX12_in_2 ?_
  refine lv_if_lt (tgt := 17) hx hb dX12_in_3 (by decide) (fun h1 => ?_) (fun h1 => ?_)
  · refine lv_iconst (v := 0) hx hb dX12_in_17 (by decide) ?_
    exact kr_z hx hb hr rfl hlocks hP hD hS [] [] (by decide) rfl ⟨0, by omega, rfl, rfl⟩ (by decide) (by decide) dX12_in_18
  · refine lv_lload_n hx hb dX12_in_6 rfl (lv_at hl 0 rfl) ?_
    refine lv_lload hx hb dX12_in_7 (lv_at hl 2 rfl) ?_
    refine W.lcmp hx hb dX12_in_9 ?_
    refine lv_if_gt (tgt := 17) hx hb dX12_in_10 (by decide) (fun h2 => ?_) (fun h2 => ?_)
    · refine lv_iconst (v := 0) hx hb dX12_in_17 (by decide) ?_
      exact kr_z hx hb hr rfl hlocks hP hD hS [] [] (by decide) rfl ⟨0, by omega, rfl, rfl⟩ (by decide) (by decide) dX12_in_18
    · refine lv_iconst (v := 1) hx hb dX12_in_13 (by decide) ?_
      refine lv_goto (tgt := 18) hx hb dX12_in_14 (by decide) ?_
      exact kr_z hx hb hr rfl hlocks hP hD hS [] [] (by decide) rfl ⟨1, by omega, rfl, rfl⟩ (by decide) (by decide) dX12_in_18
