/-! numbers of the machine as whole numbers; rows over them -/
def zI (z : Int) : Int32 := Int32.ofInt z
abbrev rI (z : Int) : Prop := -2147483648 ≤ z ∧ z < 2147483648
theorem zI_add (a b : Int) : zI a + zI b = zI (a + b) := (Int32.ofInt_add a b).symm
theorem zI_sub (a b : Int) : zI a - zI b = zI (a - b) := (Int32.ofInt_sub a b).symm
theorem zI_mul (a b : Int) : zI a * zI b = zI (a * b) := (Int32.ofInt_mul a b).symm
theorem zI_neg (a : Int) : -zI a = zI (-a) := (Int32.ofInt_neg a).symm
theorem zI_toInt {z : Int} (h : rI z) : (zI z).toInt = z := Int32.toInt_ofInt_of_le (by omega) (by omega)
theorem zI_ex (x : Int32) : ∃ z, x = zI z ∧ rI z := ⟨x.toInt, (Int32.ofInt_toInt x).symm, Int32.le_toInt x, Int32.toInt_lt x⟩
theorem zI_lt {a b : Int} (ha : rI a) (hb : rI b) : zI a < zI b ↔ a < b := by rw [Int32.lt_iff_toInt_lt, zI_toInt ha, zI_toInt hb]
theorem zI_le {a b : Int} (ha : rI a) (hb : rI b) : zI a ≤ zI b ↔ a ≤ b := by rw [Int32.le_iff_toInt_le, zI_toInt ha, zI_toInt hb]
theorem zI_eq {a b : Int} (ha : rI a) (hb : rI b) : zI a = zI b ↔ a = b := by rw [← Int32.toInt_inj, zI_toInt ha, zI_toInt hb]
theorem zI_clamp {z : Int} (h0 : 0 ≤ z) (h1 : z < 2147483648) : (zI z).toNatClampNeg = z.toNat := by
  have h : (zI z).toInt = z := zI_toInt ⟨by omega, h1⟩
  rw [← Int32.toNat_toInt, h]
theorem zI_in {z : Int} {n : Nat} (h0 : 0 ≤ z) (h1 : z < n) (hn : n ≤ 2147483648) : vp_in (zI z) n := by
  have hc := zI_clamp h0 (by omega)
  rintro (h | h)
  · rw [show (0 : Int32) = zI 0 from rfl, zI_lt ⟨by omega, by omega⟩ ⟨by omega, by omega⟩] at h
    omega
  · rw [hc] at h
    omega
/-- contents of a row of ints, and one place of it changed -/
abbrev cI (F : Nat → Int) : Nat → Int32 := fun j => zI (F j)
def uZ (F : Nat → Int) (k : Nat) (v : Int) : Nat → Int := fun j => if j = k then v else F j
theorem uZ_cI (F : Nat → Int) (k : Nat) (v : Int) : upd (cI F) k (zI v) = cI (uZ F k v) := by
  funext j
  unfold upd cI uZ
  split <;> rfl
/-- a range that all places keep -/
def rng (F : Nat → Int) (n : Nat) (lo hi : Int) : Prop := ∀ j, j < n → lo ≤ F j ∧ F j ≤ hi
theorem rng.up {F : Nat → Int} {n : Nat} {lo hi : Int} (h : rng F n lo hi) {k : Nat} {v : Int} (h1 : lo ≤ v) (h2 : v ≤ hi) : rng (uZ F k v) n lo hi := by
  intro j hj
  unfold uZ
  split
  · exact ⟨h1, h2⟩
  · exact h j hj
theorem rng.at {F : Nat → Int} {n : Nat} {lo hi : Int} (h : rng F n lo hi) {z : Int} (h0 : 0 ≤ z) (h1 : z < n) : lo ≤ F z.toNat ∧ F z.toNat ≤ hi := h z.toNat (by omega)
theorem rng.c {n : Nat} {lo hi v : Int} (h1 : lo ≤ v) (h2 : v ≤ hi) : rng (fun _ => v) n lo hi := fun _ _ => ⟨h1, h2⟩
section RIS
variable {p : Program} {l : Launch} {e : Env} {R : Room} {s : State} {m : MethodId} {args : Array Value} {below : List Frame} {meth : Method} {c : Code} {H : Heap} {locs : List Loc} {cells slots : Nat} {Q : State → Prop}
variable {cc : ByteArray} {pc : Nat} {ls : Array Slot} {rest : List Value} {D : va_G} {A : Nat → Prop} {a : Nat} {ty : Nat → ClassId} {ws : va_W} {H0 : Heap}
theorem ri_add (hx : p.tables.exec = Jvm.exec) (hb : c.code = cc) {x y : Int} (hdg : decode cc pc = .ok (.iadd, 1)) (k : W p l e R s m args below meth c H locs cells slots Q (F0 m (pc + 1) ls (.int (zI (x + y)) :: rest))) : W p l e R s m args below meth c H locs cells slots Q (F0 m pc ls (.int (zI y) :: .int (zI x) :: rest)) := lv_iadd hx hb hdg (by rw [zI_add]; exact k)
theorem ri_sub (hx : p.tables.exec = Jvm.exec) (hb : c.code = cc) {x y : Int} (hdg : decode cc pc = .ok (.isub, 1)) (k : W p l e R s m args below meth c H locs cells slots Q (F0 m (pc + 1) ls (.int (zI (x - y)) :: rest))) : W p l e R s m args below meth c H locs cells slots Q (F0 m pc ls (.int (zI y) :: .int (zI x) :: rest)) := lv_isub hx hb hdg (by rw [zI_sub]; exact k)
theorem ri_mul (hx : p.tables.exec = Jvm.exec) (hb : c.code = cc) {x y : Int} (hdg : decode cc pc = .ok (.imul, 1)) (k : W p l e R s m args below meth c H locs cells slots Q (F0 m (pc + 1) ls (.int (zI (x * y)) :: rest))) : W p l e R s m args below meth c H locs cells slots Q (F0 m pc ls (.int (zI y) :: .int (zI x) :: rest)) := lv_imul hx hb hdg (by rw [zI_mul]; exact k)
/-- any number has a whole number's name -/
theorem ri_any {x : Int32} (k : ∀ z : Int, rI z → x = zI z → W p l e R s m args below meth c H locs cells slots Q (F0 m pc ls (.int (zI z) :: rest))) : W p l e R s m args below meth c H locs cells slots Q (F0 m pc ls (.int x :: rest)) := by
  obtain ⟨z, h1, h2⟩ := zI_ex x
  have h3 := k z h2 h1
  rw [← h1] at h3
  exact h3
theorem ri_icmp_eq (hx : p.tables.exec = Jvm.exec) (hb : c.code = cc) {x y : Int} {off : Int} {tgt : Nat} (hdg : decode cc pc = .ok (.if_icmp .eq off, 3)) (ht : (pc : Int) + off = (tgt : Int)) (rx : rI x) (ry : rI y) (kt : x = y → W p l e R s m args below meth c H locs cells slots Q (F0 m tgt ls rest)) (kf : ¬ x = y → W p l e R s m args below meth c H locs cells slots Q (F0 m (pc + 3) ls rest)) : W p l e R s m args below meth c H locs cells slots Q (F0 m pc ls (.int (zI y) :: .int (zI x) :: rest)) :=
  lv_icmp_eq hx hb hdg ht (fun h => kt ((zI_eq rx ry).mp h)) (fun h => kf (fun q => h ((zI_eq rx ry).mpr q)))
theorem ri_icmp_ne (hx : p.tables.exec = Jvm.exec) (hb : c.code = cc) {x y : Int} {off : Int} {tgt : Nat} (hdg : decode cc pc = .ok (.if_icmp .ne off, 3)) (ht : (pc : Int) + off = (tgt : Int)) (rx : rI x) (ry : rI y) (kt : ¬ x = y → W p l e R s m args below meth c H locs cells slots Q (F0 m tgt ls rest)) (kf : x = y → W p l e R s m args below meth c H locs cells slots Q (F0 m (pc + 3) ls rest)) : W p l e R s m args below meth c H locs cells slots Q (F0 m pc ls (.int (zI y) :: .int (zI x) :: rest)) :=
  lv_icmp_ne hx hb hdg ht (fun h => kt (fun q => h ((zI_eq rx ry).mpr q))) (fun h => kf ((zI_eq rx ry).mp h))
theorem ri_icmp_lt (hx : p.tables.exec = Jvm.exec) (hb : c.code = cc) {x y : Int} {off : Int} {tgt : Nat} (hdg : decode cc pc = .ok (.if_icmp .lt off, 3)) (ht : (pc : Int) + off = (tgt : Int)) (rx : rI x) (ry : rI y) (kt : x < y → W p l e R s m args below meth c H locs cells slots Q (F0 m tgt ls rest)) (kf : y ≤ x → W p l e R s m args below meth c H locs cells slots Q (F0 m (pc + 3) ls rest)) : W p l e R s m args below meth c H locs cells slots Q (F0 m pc ls (.int (zI y) :: .int (zI x) :: rest)) :=
  lv_icmp_lt hx hb hdg ht (fun h => kt ((zI_lt rx ry).mp h)) (fun h => kf (Int.not_lt.mp (fun q => h ((zI_lt rx ry).mpr q))))
theorem ri_icmp_ge (hx : p.tables.exec = Jvm.exec) (hb : c.code = cc) {x y : Int} {off : Int} {tgt : Nat} (hdg : decode cc pc = .ok (.if_icmp .ge off, 3)) (ht : (pc : Int) + off = (tgt : Int)) (rx : rI x) (ry : rI y) (kt : y ≤ x → W p l e R s m args below meth c H locs cells slots Q (F0 m tgt ls rest)) (kf : x < y → W p l e R s m args below meth c H locs cells slots Q (F0 m (pc + 3) ls rest)) : W p l e R s m args below meth c H locs cells slots Q (F0 m pc ls (.int (zI y) :: .int (zI x) :: rest)) :=
  lv_icmp_ge hx hb hdg ht (fun h => kt ((zI_le ry rx).mp h)) (fun h => kf (Int.not_le.mp (fun q => h ((zI_le ry rx).mpr q))))
theorem ri_icmp_gt (hx : p.tables.exec = Jvm.exec) (hb : c.code = cc) {x y : Int} {off : Int} {tgt : Nat} (hdg : decode cc pc = .ok (.if_icmp .gt off, 3)) (ht : (pc : Int) + off = (tgt : Int)) (rx : rI x) (ry : rI y) (kt : y < x → W p l e R s m args below meth c H locs cells slots Q (F0 m tgt ls rest)) (kf : x ≤ y → W p l e R s m args below meth c H locs cells slots Q (F0 m (pc + 3) ls rest)) : W p l e R s m args below meth c H locs cells slots Q (F0 m pc ls (.int (zI y) :: .int (zI x) :: rest)) :=
  lv_icmp_gt hx hb hdg ht (fun h => kt ((zI_lt ry rx).mp h)) (fun h => kf (Int.not_lt.mp (fun q => h ((zI_lt ry rx).mpr q))))
theorem ri_icmp_le (hx : p.tables.exec = Jvm.exec) (hb : c.code = cc) {x y : Int} {off : Int} {tgt : Nat} (hdg : decode cc pc = .ok (.if_icmp .le off, 3)) (ht : (pc : Int) + off = (tgt : Int)) (rx : rI x) (ry : rI y) (kt : x ≤ y → W p l e R s m args below meth c H locs cells slots Q (F0 m tgt ls rest)) (kf : y < x → W p l e R s m args below meth c H locs cells slots Q (F0 m (pc + 3) ls rest)) : W p l e R s m args below meth c H locs cells slots Q (F0 m pc ls (.int (zI y) :: .int (zI x) :: rest)) :=
  lv_icmp_le hx hb hdg ht (fun h => kt ((zI_le rx ry).mp h)) (fun h => kf (Int.not_le.mp (fun q => h ((zI_le rx ry).mpr q))))
theorem ri_if_eq (hx : p.tables.exec = Jvm.exec) (hb : c.code = cc) {x : Int} {off : Int} {tgt : Nat} (hdg : decode cc pc = .ok (.ifCond .eq off, 3)) (ht : (pc : Int) + off = (tgt : Int)) (rx : rI x) (kt : x = 0 → W p l e R s m args below meth c H locs cells slots Q (F0 m tgt ls rest)) (kf : ¬ x = 0 → W p l e R s m args below meth c H locs cells slots Q (F0 m (pc + 3) ls rest)) : W p l e R s m args below meth c H locs cells slots Q (F0 m pc ls (.int (zI x) :: rest)) :=
  lv_if_eq hx hb hdg ht (fun h => kt ((zI_eq rx ⟨by decide, by decide⟩).mp h)) (fun h => kf (fun q => h ((zI_eq rx ⟨by decide, by decide⟩).mpr q)))
theorem ri_if_ne (hx : p.tables.exec = Jvm.exec) (hb : c.code = cc) {x : Int} {off : Int} {tgt : Nat} (hdg : decode cc pc = .ok (.ifCond .ne off, 3)) (ht : (pc : Int) + off = (tgt : Int)) (rx : rI x) (kt : ¬ x = 0 → W p l e R s m args below meth c H locs cells slots Q (F0 m tgt ls rest)) (kf : x = 0 → W p l e R s m args below meth c H locs cells slots Q (F0 m (pc + 3) ls rest)) : W p l e R s m args below meth c H locs cells slots Q (F0 m pc ls (.int (zI x) :: rest)) :=
  lv_if_ne hx hb hdg ht (fun h => kt (fun q => h ((zI_eq rx ⟨by decide, by decide⟩).mpr q))) (fun h => kf ((zI_eq rx ⟨by decide, by decide⟩).mp h))
theorem ri_if_lt (hx : p.tables.exec = Jvm.exec) (hb : c.code = cc) {x : Int} {off : Int} {tgt : Nat} (hdg : decode cc pc = .ok (.ifCond .lt off, 3)) (ht : (pc : Int) + off = (tgt : Int)) (rx : rI x) (kt : x < 0 → W p l e R s m args below meth c H locs cells slots Q (F0 m tgt ls rest)) (kf : 0 ≤ x → W p l e R s m args below meth c H locs cells slots Q (F0 m (pc + 3) ls rest)) : W p l e R s m args below meth c H locs cells slots Q (F0 m pc ls (.int (zI x) :: rest)) :=
  lv_if_lt hx hb hdg ht (fun h => kt ((zI_lt rx ⟨by decide, by decide⟩).mp h)) (fun h => kf (Int.not_lt.mp (fun q => h ((zI_lt rx ⟨by decide, by decide⟩).mpr q))))
theorem ri_if_ge (hx : p.tables.exec = Jvm.exec) (hb : c.code = cc) {x : Int} {off : Int} {tgt : Nat} (hdg : decode cc pc = .ok (.ifCond .ge off, 3)) (ht : (pc : Int) + off = (tgt : Int)) (rx : rI x) (kt : 0 ≤ x → W p l e R s m args below meth c H locs cells slots Q (F0 m tgt ls rest)) (kf : x < 0 → W p l e R s m args below meth c H locs cells slots Q (F0 m (pc + 3) ls rest)) : W p l e R s m args below meth c H locs cells slots Q (F0 m pc ls (.int (zI x) :: rest)) :=
  lv_if_ge hx hb hdg ht (fun h => kt ((zI_le ⟨by decide, by decide⟩ rx).mp h)) (fun h => kf (Int.not_le.mp (fun q => h ((zI_le ⟨by decide, by decide⟩ rx).mpr q))))
theorem ri_if_gt (hx : p.tables.exec = Jvm.exec) (hb : c.code = cc) {x : Int} {off : Int} {tgt : Nat} (hdg : decode cc pc = .ok (.ifCond .gt off, 3)) (ht : (pc : Int) + off = (tgt : Int)) (rx : rI x) (kt : 0 < x → W p l e R s m args below meth c H locs cells slots Q (F0 m tgt ls rest)) (kf : x ≤ 0 → W p l e R s m args below meth c H locs cells slots Q (F0 m (pc + 3) ls rest)) : W p l e R s m args below meth c H locs cells slots Q (F0 m pc ls (.int (zI x) :: rest)) :=
  lv_if_gt hx hb hdg ht (fun h => kt ((zI_lt ⟨by decide, by decide⟩ rx).mp h)) (fun h => kf (Int.not_lt.mp (fun q => h ((zI_lt ⟨by decide, by decide⟩ rx).mpr q))))
theorem ri_if_le (hx : p.tables.exec = Jvm.exec) (hb : c.code = cc) {x : Int} {off : Int} {tgt : Nat} (hdg : decode cc pc = .ok (.ifCond .le off, 3)) (ht : (pc : Int) + off = (tgt : Int)) (rx : rI x) (kt : x ≤ 0 → W p l e R s m args below meth c H locs cells slots Q (F0 m tgt ls rest)) (kf : 0 < x → W p l e R s m args below meth c H locs cells slots Q (F0 m (pc + 3) ls rest)) : W p l e R s m args below meth c H locs cells slots Q (F0 m pc ls (.int (zI x) :: rest)) :=
  lv_if_le hx hb hdg ht (fun h => kt ((zI_le rx ⟨by decide, by decide⟩).mp h)) (fun h => kf (Int.not_le.mp (fun q => h ((zI_le rx ⟨by decide, by decide⟩).mpr q))))
/-- loads and stores of int rows -/
theorem ri_iald (hx : p.tables.exec = Jvm.exec) (hb : c.code = cc) (hK : kK D ty s) (hP : va_P D vwCl ws H) (q0 : Nat) {n : Nat} {F : Nat → Int} (ha : ws[q0]? = some (a, .inl (ty 1, n, .inl (cI F)))) {z : Int} (h0 : 0 ≤ z) (h1 : z < n) (hn : n ≤ 2147483648) (hdg : decode cc pc = .ok (.iaload, 1))
    (kk : W p l e R s m args below meth c H locs cells slots Q (F0 m (pc + 1) ls (.int (zI (F z.toNat)) :: rest))) : W p l e R s m args below meth c H locs cells slots Q (F0 m pc ls (.int (zI z) :: .ref a :: rest)) := by
  refine va_iald hx hb hK.1 hP q0 1 ha rfl (zI_in h0 h1 hn) hdg ?_
  rw [zI_clamp h0 (by omega)]
  exact kk
theorem ri_iast (hx : p.tables.exec = Jvm.exec) (hb : c.code = cc) (hK : kK D ty s) (hP : va_P D vwCl ws H) (hD : va_D A ws) (hS : va_S A H0 H locs) (q0 : Nat) {n : Nat} {F : Nat → Int} (ha : ws[q0]? = some (a, .inl (ty 1, n, .inl (cI F)))) {z v : Int} (h0 : 0 ≤ z) (h1 : z < n) (hn : n ≤ 2147483648) (hdg : decode cc pc = .ok (.iastore, 1)) {ws' : va_W} (hws : ws.set q0 (a, .inl (ty 1, n, .inl (cI (uZ F z.toNat v)))) = ws')
    (kk : ∀ (H1 : Heap) (locs1 : List Loc), va_P D vwCl ws' H1 → va_D A ws' → va_S A H0 H1 locs1 → W p l e R s m args below meth c H1 locs1 cells slots Q (F0 m (pc + 1) ls rest)) : W p l e R s m args below meth c H locs cells slots Q (F0 m pc ls (.int (zI v) :: .int (zI z) :: .ref a :: rest)) := by
  refine wy_iast hx hb hK hP hD hS q0 1 ha rfl (zI_in h0 h1 hn) hdg (zI_clamp h0 (by omega)) ?_ kk
  rw [uZ_cI]
  exact hws
end RIS
section RMM
variable {p : Program} {l : Launch} {e : Env} {R : Room} {s : State} {m : MethodId} {args : Array Value} {below : List Frame} {meth : Method} {c : Code} {H : Heap} {locs : List Loc} {cells slots : Nat} {Q : State → Prop}
variable {pc : Nat} {ls : Array Slot} {rest : List Value}
theorem ri_min {cc : ByteArray} (hexec : p.tables.exec = Jvm.exec) (hb : c.code = cc) (hml : c.maxLocals = ls.size) {own : String} {index : Nat} (hown : s.vm.findClass own = some m.cls) (hlink : (Cond.methodLink own index Lib.Math.min.name).before args s = true) (hstat : (Cond.static Lib.Math.min.name).before args s = true) (hini : (Cond.initialized "java/lang/Math").before args s = true) (hcode : (Cond.code Lib.Math.min.name Lib.Math.min.code 2 (some .int)).before args s = true)
    (hframes : 1 ≤ R.frames) (hlocals : (rest.map fun v => v.category).sum + 13 ≤ R.locals) (hc : cells ≤ R.cells) (hs : slots ≤ R.slots) {x y : Int} (rx : rI x) (ry : rI y) (hdg : decode cc pc = .ok (.invokestatic index, 3))
    (kk : W p l e R s m args below meth c H locs cells slots Q (F0 m (pc + 3) ls (.int (zI (min x y)) :: rest))) : W p l e R s m args below meth c H locs cells slots Q (F0 m pc ls (.int (zI y) :: .int (zI x) :: rest)) := by
  refine va_mmin hexec hb hml hown hlink hstat hini hcode hframes hlocals hc hs hdg ?_
  have h : (if zI y < zI x then zI y else zI x) = zI (min x y) := by
    by_cases h : y < x
    · rw [if_pos ((zI_lt ry rx).mpr h)]; congr 1; omega
    · rw [if_neg (fun q => h ((zI_lt ry rx).mp q))]; congr 1; omega
  rw [h]
  exact kk
theorem ri_max {cc : ByteArray} (hexec : p.tables.exec = Jvm.exec) (hb : c.code = cc) (hml : c.maxLocals = ls.size) {own : String} {index : Nat} (hown : s.vm.findClass own = some m.cls) (hlink : (Cond.methodLink own index Lib.Math.max.name).before args s = true) (hstat : (Cond.static Lib.Math.max.name).before args s = true) (hini : (Cond.initialized "java/lang/Math").before args s = true) (hcode : (Cond.code Lib.Math.max.name Lib.Math.max.code 2 (some .int)).before args s = true)
    (hframes : 1 ≤ R.frames) (hlocals : (rest.map fun v => v.category).sum + 13 ≤ R.locals) (hc : cells ≤ R.cells) (hs : slots ≤ R.slots) {x y : Int} (rx : rI x) (ry : rI y) (hdg : decode cc pc = .ok (.invokestatic index, 3))
    (kk : W p l e R s m args below meth c H locs cells slots Q (F0 m (pc + 3) ls (.int (zI (max x y)) :: rest))) : W p l e R s m args below meth c H locs cells slots Q (F0 m pc ls (.int (zI y) :: .int (zI x) :: rest)) := by
  refine va_mmax hexec hb hml hown hlink hstat hini hcode hframes hlocals hc hs hdg ?_
  have h : (if zI x < zI y then zI y else zI x) = zI (max x y) := by
    by_cases h : x < y
    · rw [if_pos ((zI_lt rx ry).mpr h)]; congr 1; omega
    · rw [if_neg (fun q => h ((zI_lt rx ry).mp q))]; congr 1; omega
  rw [h]
  exact kk
end RMM
