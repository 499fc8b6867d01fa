section MNA
variable {E : CtlPost} {e : Env} {d : Bool} {acts : List Action} {s : State} {f : JFrame}
/-- newArray of a class whose kind is known, its room being there -/
theorem mn_newA {c : ClassId} {k : Class} {comp : ClassId} {type : FieldType} {n : Nat} {v : Value} {Q : Addr → Pre}
    (hk : s.vm.classes[c]? = some k) (hkind : k.kind = .array comp type) (hlimit : ¬ n > e.platform.arrayLengthLimit) (hheap : ¬ n * componentBytes type > e.platform.maxHeapBytes)
    (hv : fits type v = true) (hdv : v.isDefault = true) (h1 : s.heap.size < e.platform.maxCells) (h2 : s.slotsUsed + n ≤ e.platform.maxSlots)
    (hq : Q s.heap.size d acts (s.pushCell { cls := c, slots := Array.replicate n v, vm := .none })) : wp (Jvm.newArray c n v) Q E e d acts s := by
  have hfit : ∀ i w, (Array.replicate n v)[i]? = some w → s.fitsSlot c .none i w = true := by
    intro i w hw
    simp only [Array.getElem?_replicate] at hw
    split at hw
    · cases hw; simp [State.fitsSlot, State.slotType?, hk, hkind, hv]
    · cases hw
  have hdef : allocActs (Array.replicate n v) s.heap.size acts = acts := by
    have hall : ((Array.replicate n v).all (·.isDefault)) = true := by
      rw [Array.all_replicate]; split <;> simp [hdv]
    unfold allocActs; rw [if_pos hall]
  have h3 : ¬ n > e.platform.maxSlots := by omega
  simp only [Jvm.newArray, Jvm.arrayFits, wp_bind', W.ask, W.ite, hlimit, if_false, wp_pure', W.theClass, hk, Option.some.injEq, exists_eq_left', hkind, hheap, h3, W.alloc, hdef, Array.size_replicate]
  exact ⟨h1, h2, hfit, hq⟩
/-- what a writeLoc does -/
theorem mn_write {a i : Nat} {v : Value} {cell : Cell} {Q : Unit → Pre} (hc : s.heap[a]? = some cell) (hu : cell.vm ≠ .unknown) (hi : i < cell.slots.size) (hf : s.fitsSlot cell.cls cell.vm i v = true)
    (hq : ∀ acts', Q () true acts' (s.setCell a (cell.setSlot i v))) : wp (Jvm.writeLoc a i v) Q E e d acts s := by
  rw [W.writeLoc]
  exact ⟨cell, hc, hu, hi, hf, hq _⟩
theorem mn_inner {comp cz : ClassId} {kI : Class} {Q : Addr → Pre} (hkI : s.vm.classes[comp]? = some kI) (hkindI : kI.kind = .array cz .int) (hl : ¬ 28 > e.platform.arrayLengthLimit) (hh : ¬ 28 * 4 > e.platform.maxHeapBytes)
    (h1 : s.heap.size < e.platform.maxCells) (h2 : s.slotsUsed + 28 ≤ e.platform.maxSlots) (hq : Q s.heap.size d acts (s.pushCell { cls := comp, slots := Array.replicate 28 (.int 0), vm := .none })) : wp (multianewarray.make comp [28]) Q E e d acts s := by
  unfold multianewarray.make
  simp only [wp_bind', W.ite, show ¬ ((28 : Int32) < 0) by decide, if_false, wp_pure', W.theClass, hkI, Option.some.injEq, exists_eq_left', hkindI]
  exact mn_newA (n := 28) hkI hkindI hl hh rfl rfl h1 h2 hq
theorem mn_wp {index : Nat} {c comp cz : ClassId} {k kI : Class} {rest : List Value} {Q : Unit → Pre} (hs : s.topJava?.isSome) (hr : s.vm.classReady f.method.cls index c)
    (hk : s.vm.classes[c]? = some k) (hkind : k.kind = .array comp (.array .int)) (hkI : s.vm.classes[comp]? = some kI) (hkindI : kI.kind = .array cz .int)
    (hstack : f.stack = .int 28 :: .int 2 :: rest) (hl : ¬ 28 > e.platform.arrayLengthLimit) (hh : ¬ 28 * 4 > e.platform.maxHeapBytes)
    (h1 : s.heap.size + 3 ≤ e.platform.maxCells) (h2 : s.slotsUsed + 58 ≤ e.platform.maxSlots)
    (hq : ∀ acts', Q () true acts' (((((s.pushCell { cls := c, slots := #[.null, .null], vm := .none }).pushCell { cls := comp, slots := Array.replicate 28 (.int 0), vm := .none }).setCell s.heap.size { cls := c, slots := #[.ref (s.heap.size + 1), .null], vm := .none }).pushCell { cls := comp, slots := Array.replicate 28 (.int 0), vm := .none }).setCell s.heap.size { cls := c, slots := #[.ref (s.heap.size + 1), .ref (s.heap.size + 2)], vm := .none } |>.setTop { f with stack := .ref s.heap.size :: rest })) :
    wp (multianewarray.sem index 2) Q E e d acts (s.setTop f) := by
  simp only [multianewarray.sem, wp_bind', W.resolveClassAt_ready (State.method?_setTop f hs) hr, W.popN, State.topJava?_setTop' _ hs, Option.some.injEq, exists_eq_left']
  rw [if_neg (by decide)]
  refine ⟨[.int 2, .int 28], rest, rfl, hstack, ?_⟩
  simp only [List.mapM_cons, List.mapM_nil, wp_bind', wp_pure', State.setTop_setTop]
  rw [multianewarray.make]
  simp only [wp_bind', W.ite, show ¬ ((2 : Int32) < 0) by decide, if_false, wp_pure', W.theClass, State.vm_setTop, hk, Option.some.injEq, exists_eq_left', hkind]
  refine mn_newA (n := 2) (k := k) (comp := comp) (type := .array .int) hk hkind (by omega) (by show ¬ 2 * 4 > _; omega) rfl rfl (by rw [State.heap_setTop]; omega) (by rw [State.slotsUsed_setTop]; omega) ?_
  simp only [wp_bind', State.heap_setTop, State.pushCell_setTop, show ((2 : Int32) == 0) = false by decide, Bool.false_eq_true, if_false, wp_pure', show (2 : Int32).toNatClampNeg = 2 by decide, Std.Legacy.Range.forIn_eq_forIn_range']
  show wp (forIn [0, 1] PUnit.unit _) _ E e true acts _
  simp only [List.forIn_cons, List.forIn_nil, wp_bind']
  rw [show Array.replicate 2 Value.null = #[.null, .null] from rfl]
  generalize hI : ({ cls := comp, slots := Array.replicate 28 (.int 0), vm := .none } : Cell) = I at hq
  have hIs : I.slots.size = 28 := by rw [← hI]; simp
  have e1 : (s.pushCell { cls := c, slots := #[.null, .null], vm := .none }).heap.size = s.heap.size + 1 := by simp [State.pushCell]
  refine mn_inner (kI := kI) (cz := cz) hkI hkindI hl hh (by rw [State.heap_setTop, e1]; omega) (by rw [State.slotsUsed_setTop]; show s.slotsUsed + 2 + 28 ≤ _; omega) ?_
  rw [hI]
  simp only [wp_bind', State.heap_setTop, e1, State.pushCell_setTop]
  refine mn_write (cell := { cls := c, slots := #[.null, .null], vm := .none }) (by rw [State.heap_setTop]; simp [State.pushCell, Array.getElem?_push]) (by intro h; cases h) (by simp) ?_ (fun a1 => ?_)
  · rw [State.fitsSlot_setTop]
    simp [State.fitsSlot, State.slotType?, State.pushCell, hk, hkind, fits]
  simp only [wp_pure', wp_bind', State.setCell_setTop]
  have e2 : (((s.pushCell { cls := c, slots := #[.null, .null], vm := .none }).pushCell I).setCell s.heap.size { cls := c, slots := #[.ref (s.heap.size + 1), .null], vm := .none }).heap.size = s.heap.size + 2 := by simp [State.pushCell, State.setCell]
  refine mn_inner (kI := kI) (cz := cz) hkI hkindI hl hh (by rw [State.heap_setTop]; show Array.size (State.heap _) < _; rw [show (Cell.setSlot _ 0 (.ref (s.heap.size + 1))) = { cls := c, slots := #[.ref (s.heap.size + 1), .null], vm := .none } from rfl, e2]; omega) (by rw [State.slotsUsed_setTop]; show s.slotsUsed + 2 + I.slots.size + 28 ≤ _; rw [hIs]; omega) ?_
  rw [hI]
  rw [show (Cell.setSlot { cls := c, slots := #[.null, .null], vm := .none } 0 (.ref (s.heap.size + 1))) = { cls := c, slots := #[.ref (s.heap.size + 1), .null], vm := .none } from rfl]
  simp only [wp_bind', State.heap_setTop, e2, State.pushCell_setTop]
  refine mn_write (cell := { cls := c, slots := #[.ref (s.heap.size + 1), .null], vm := .none }) (by rw [State.heap_setTop]; simp [State.pushCell, State.setCell, Array.getElem?_push, Array.getElem?_setIfInBounds]; rw [if_neg (by omega), if_pos (by omega)]) (by intro h; cases h) (by simp) ?_ (fun a2 => ?_)
  · rw [State.fitsSlot_setTop]
    simp [State.fitsSlot, State.slotType?, State.pushCell, State.setCell, hk, hkind, fits]
  simp only [wp_pure', wp_bind', State.setCell_setTop, W.mark, W.pushRef]
  refine ⟨_, State.topJava?_setTop' _ ?_, ?_⟩
  · exact hs
  · rw [State.setTop_setTop]
    exact hq _
theorem mn_cold {index c : Nat} {vm' : Vm} {Q : Unit → Pre} (hs : s.topJava?.isSome) (hg : (Jvm.resolveClass f.method.cls index).Gives e.toSetting s.vm (.ok c) vm') (hr : vm'.classReady f.method.cls index c)
    (hsz : vm'.classes.size ≤ s.vm.classes.size := by no_record) :
    wp (multianewarray.sem index 2) Q E e d acts (s.setTop f) ↔ wp (multianewarray.sem index 2) Q E e d acts ((s.setVm vm').setTop f) := by
  simp only [multianewarray.sem, wp_bind']
  exact W.resolveClassAt_transfer (s := s.setTop f) (State.method?_setTop f hs) hg hr
end MNA
section MNS
variable {p : Program} {l : Launch} {e : Env} {R : Room} {s : State} {m : MethodId} {args : Array Value} {below : List Frame} {meth : Method} {c : Code} {T : State} {locs : List Loc} {cells slots : Nat}
/-- the heap behind new int[2][28] -/
def mn_H (T : State) (cA cI : ClassId) : State := ((((T.pushCell { cls := cA, slots := #[.null, .null], vm := .none }).pushCell { cls := cI, slots := Array.replicate 28 (.int 0), vm := .none }).setCell T.heap.size { cls := cA, slots := #[.ref (T.heap.size + 1), .null], vm := .none }).pushCell { cls := cI, slots := Array.replicate 28 (.int 0), vm := .none }).setCell T.heap.size { cls := cA, slots := #[.ref (T.heap.size + 1), .ref (T.heap.size + 2)], vm := .none }
theorem mn_stand (X : Stand p l e R s m args below meth c T locs cells slots) (hexec : p.tables.exec = Jvm.exec) {own : String} {index : Nat} {cA cI cz : ClassId} {kA kI : Class}
    (hown : s.vm.findClass own = some m.cls) (hclink : (Cond.classLink own index "[[I").before args s = true) (hfA : s.vm.findClass "[[I" = some cA) (hkA : s.vm.classes[cA]? = some kA) (hkind : kA.kind = .array cI (.array .int)) (hkI : s.vm.classes[cI]? = some kI) (hkindI : kI.kind = .array cz .int)
    {g : JFrame} (hg : g.method = m) (hdg : decode c.code g.pc = .ok (.multianewarray index 2, 4)) {rest : List Value} (hstack : g.stack = .int 28 :: .int 2 :: rest) (hcells : cells + 3 ≤ R.cells) (hslots : slots + 58 ≤ R.slots) :
    ∃ vm₁ : Vm, s.WarmedH vm₁ ∧ Stand p l e R s m args below meth c (mn_H (T.setVm vm₁) cA cI) locs (cells + 3) (slots + 58) ∧
      ∀ target, Steps p.tables e below ((mn_H (T.setVm vm₁) cA cI).setTop { g with pc := g.pc + 4, stack := .ref T.heap.size :: rest }) target → Steps p.tables e below (T.setTop g) target := by
  subst hg
  have hpl : e.platform.magicAccessors = ({} : Platform).magicAccessors := by rw [X.admits.platform]
  obtain ⟨cc, hfcc, hcl⟩ := Cond.classLink_spec hown hclink e.platform hpl
  cases hfA.symm.trans hfcc
  obtain ⟨hg₁, hwarm₁, hready₁⟩ := State.classEntry (e := e) X.warmed hcl
  generalize T.vm.noted g.method.cls index (.cls cA) = vm₁ at hg₁ hwarm₁ hready₁
  have hal : s.vm.Alike vm₁ := hwarm₁.alike
  obtain ⟨kA₁, hkA₁, heA⟩ := hal.2.2 _ _ hkA
  obtain ⟨kI₁, hkI₁, heI⟩ := hal.2.2 _ _ hkI
  have hkindA₁ : kA₁.kind = .array cI (.array .int) := by rw [heA]; exact hkind
  have hkindI₁ : kI₁.kind = .array cz .int := by rw [heI]; exact hkindI
  have X₁ := X.noted hwarm₁
  obtain ⟨hr1, hr2⟩ := X.roomAbove hcells hslots
  have hgr : s.heap.size ≤ T.heap.size := X.heapGrown
  have eT : (T.setVm vm₁).heap = T.heap := rfl
  have X₂ := (X₁.pushed { cls := cA, slots := #[.null, .null], vm := .none }).pushed { cls := cI, slots := Array.replicate 28 (.int 0), vm := .none }
  have X₃ := (X₂.stored (a := T.heap.size) (cell := { cls := cA, slots := #[.null, .null], vm := .none }) (by simp [State.pushCell, eT, Array.getElem?_push]) 0 (.ref (T.heap.size + 1))).dropFresh (fun y hy => by simp at hy; rw [hy]; exact hgr)
  have X₄ := X₃.pushed { cls := cI, slots := Array.replicate 28 (.int 0), vm := .none }
  have X₅ := (X₄.stored (a := T.heap.size) (cell := { cls := cA, slots := #[.ref (T.heap.size + 1), .null], vm := .none }) (by simp [State.pushCell, State.setCell, Cell.setSlot, eT, Array.getElem?_push, Array.getElem?_setIfInBounds]; rw [if_neg (by omega), if_pos (by omega)]) 1 (.ref (T.heap.size + 2))).dropFresh (fun y hy => by simp at hy; rw [hy]; exact hgr)
  have eN : ((cells + 1 + 1) + 1 : Nat) = cells + 3 := rfl
  refine ⟨vm₁, hwarm₁, ?_, fun target hrest => ?_⟩
  · have h58 : slots + ({ cls := cA, slots := #[.null, .null], vm := .none } : Cell).slots.size + ({ cls := cI, slots := Array.replicate 28 (.int 0), vm := .none } : Cell).slots.size + ({ cls := cI, slots := Array.replicate 28 (.int 0), vm := .none } : Cell).slots.size = slots + 58 := by simp
    rw [h58] at X₅
    exact X₅
  · jvm_step X.here [hexec, hdg, mn_cold (e := e) (s := T) (f := g) X.here.top hg₁ hready₁]
    refine mn_wp (s := T.setVm vm₁) (f := g) X.here.top hready₁ hkA₁ hkindA₁ hkI₁ hkindI₁ hstack (by rw [Launch.admits_arrayLengthLimit X.admits]; omega) (by rw [Launch.admits_maxHeapBytes X.admits]; omega) hr1 hr2 (fun acts' acts2 => ?_)
    rw [afterInstr_ok]
    exact hrest
theorem mn_heap (T : State) (cA cI : ClassId) : (mn_H T cA cI).heap = ((T.heap.push { cls := cA, slots := #[.ref (T.heap.size + 1), .ref (T.heap.size + 2)], vm := .none }).push { cls := cI, slots := Array.replicate 28 (.int 0), vm := .none }).push { cls := cI, slots := Array.replicate 28 (.int 0), vm := .none } := by
  apply Array.ext_getElem?
  intro i
  simp only [mn_H, State.setCell, State.pushCell, Array.getElem?_push, Array.getElem?_setIfInBounds, Array.size_push, Array.size_setIfInBounds]
  repeat' split
  all_goals first | rfl | (exfalso; omega)
end MNS
section MNW
variable {p : Program} {l : Launch} {e : Env} {R : Room} {s : State} {m : MethodId} {args : Array Value} {below : List Frame} {meth : Method} {c : Code} {H : Heap} {locs : List Loc} {cells slots : Nat} {Q : State → Prop}
variable {cc : ByteArray} {pc : Nat} {ls : Array Slot} {rest : List Value} {D : va_G} {cl : List vw_C} {A : Nat → Prop} {a : Nat} {tys : List (ClassId × FieldType)} {ws : va_W} {H0 : Heap}
theorem mn_push {cA : ClassId} {a0 : vp_A} {cell : Cell} (hc : vp_cell cA a0 = cell) (hP : va_P D cl ws H) (hD : va_D A ws) (hS : va_S A H0 H locs) (hA : ∀ q, H0.size ≤ q → A q) :
    va_P D cl (ws ++ [(H.size, .inl (cA, a0))]) (H.push cell) ∧ va_D A (ws ++ [(H.size, .inl (cA, a0))]) ∧ va_S A H0 (H.push cell) locs := by
  have hk : ∀ (k : Nat) (x : Nat × va_E), ws[k]? = some x → (H.push cell)[x.1]? = H[x.1]? := fun k x hx => by
    have := (hP k x hx).lt
    rw [Array.getElem?_push, if_neg (by omega)]
  refine ⟨(hP.kept hk).app (fun k x hx => ?_), hD.push hP rfl (hA _ hS.1), ?_, fun x h1 h2 => ?_, hS.2.2⟩
  · have hz : k < 1 := (List.getElem?_eq_some_iff.mp hx).1
    rw [show k = 0 by omega] at hx
    cases hx
    show (H.push cell)[H.size]? = some (vp_cell _ _)
    rw [hc]
    simp
  · have := hS.1
    rw [Array.size_push]; omega
  · have := hS.1
    rw [Array.getElem?_push, if_neg (by omega)]
    exact hS.2.1 x h1 h2
/-- new int[2][28] -/
theorem va_mn2 (hexec : p.tables.exec = Jvm.exec) (hb : c.code = cc) {own : String} {index : Nat} {cA cI : ClassId} (hown : s.vm.findClass own = some m.cls) (hclink : (Cond.classLink own index "[[I").before args s = true)
    (hK : va_K D cl tys s) (t6 t1 : Nat) (h6 : tys[t6]? = some (cA, .array .int)) (h1 : tys[t1]? = some (cI, .int)) (hkk : ∃ k : Class, s.vm.classes[cA]? = some k ∧ k.kind = .array cI (.array .int))
    (hP : va_P D cl ws H) (hD : va_D A ws) (hS : va_S A H0 H locs) (hA : ∀ q, H0.size ≤ q → A q) (hcells : cells + 3 ≤ R.cells) (hslots : slots + 58 ≤ R.slots) (hdg : decode cc pc = .ok (.multianewarray index 2, 4))
    (kk : ∀ (q q1 q2 : Nat) (H1 : Heap), va_P D cl (ws ++ [(q, .inl (cA, 2, .inr (.inr (.inr (.inr (fun i => if i = 0 then some q1 else some q2)))))), (q1, .inl (cI, 28, .inl (fun _ => 0))), (q2, .inl (cI, 28, .inl (fun _ => 0)))]) H1 →
      va_D A (ws ++ [(q, .inl (cA, 2, .inr (.inr (.inr (.inr (fun i => if i = 0 then some q1 else some q2)))))), (q1, .inl (cI, 28, .inl (fun _ => 0))), (q2, .inl (cI, 28, .inl (fun _ => 0)))]) → va_S A H0 H1 locs →
      W p l e R s m args below meth c H1 locs (cells + 3) (slots + 58) Q (F0 m (pc + 4) ls (.ref q :: rest))) : W p l e R s m args below meth c H locs cells slots Q (F0 m pc ls (.int 28 :: .int 2 :: rest)) := by
  intro T hT X
  obtain ⟨kA, hkA, hkind⟩ := hkk
  have hfA : s.vm.findClass "[[I" = some cA := (hK.2 t6 _ h6).2
  obtain ⟨-, kI, hkI, cz, hkindI⟩ := (hK.2 t1 _ h1).1 0 (fun _ => .null)
  obtain ⟨vm₁, hW, X', step⟩ := mn_stand X hexec hown hclink hfA hkA hkind hkI hkindI (g := F0 m pc ls (.int 28 :: .int 2 :: rest)) rfl (by rw [hb]; exact hdg) rfl hcells hslots
  have hh := mn_heap (T.setVm vm₁) cA cI
  rw [show (T.setVm vm₁).heap = H from hT] at hh
  obtain ⟨p1, d1, s1⟩ := mn_push (cA := cA) (a0 := (2, .inr (.inr (.inr (.inr (fun i => if i = 0 then some (H.size + 1) else some (H.size + 2))))))) (cell := { cls := cA, slots := #[.ref (H.size + 1), .ref (H.size + 2)], vm := .none }) (by rw [vp_cell_q]; rfl) hP hD hS hA
  obtain ⟨p2, d2, s2⟩ := mn_push (cA := cI) (a0 := (28, .inl (fun _ => 0))) (cell := { cls := cI, slots := Array.replicate 28 (.int 0), vm := .none }) (by rw [vp_cell_i, arrV_new]) p1 d1 s1 hA
  obtain ⟨p3, d3, s3⟩ := mn_push (cA := cI) (a0 := (28, .inl (fun _ => 0))) (cell := { cls := cI, slots := Array.replicate 28 (.int 0), vm := .none }) (by rw [vp_cell_i, arrV_new]) p2 d2 s2 hA
  simp only [Array.size_push, List.append_assoc, List.cons_append, List.nil_append] at p3 d3 s3
  rw [← hh] at p3 s3
  obtain ⟨t, a1, b1⟩ := kk H.size (H.size + 1) (H.size + 1 + 1) _ p3 d3 s3 _ rfl X'
  refine ⟨t, step t ?_, b1⟩
  rw [hT]
  exact a1
/-- a load out of an array of arrays -/
theorem va_aldA (hexec : p.tables.exec = Jvm.exec) (hb : c.code = cc) (hK : va_K D cl tys s) (hP : va_P D cl ws H) (q0 t0 : Nat) {cA : ClassId} {ty : FieldType} {n : Nat} {f : Nat → Option Nat} (ha : ws[q0]? = some (a, .inl (cA, n, .inr (.inr (.inr (.inr f)))))) (ht : tys[t0]? = some (cA, .array ty)) {i : Int32} (hin : vp_in i n) (hdg : decode cc pc = .ok (.aaload, 1))
    (kk : W p l e R s m args below meth c H locs cells slots Q (F0 m (pc + 1) ls (va_rf (f i.toNatClampNeg) :: rest))) : W p l e R s m args below meth c H locs cells slots Q (F0 m pc ls (.int i :: .ref a :: rest)) := by
  have hc : H[a]? = some (arrV cA n (fun j => va_rf (f j))) := hP q0 _ ha
  refine W.aald hexec hb hc ((hK.2 t0 _ ht).1 n _) rfl (by intro h; cases h) (by rw [arrV_size]; exact hin) (v := va_rf (f i.toNatClampNeg)) ?_ rfl rfl hdg kk
  have hlt : i.toNatClampNeg < n := Nat.lt_of_not_le (fun h => hin (Or.inr h))
  simp [arrV, hlt]
end MNW
