/-! the words of all tables that a call may carry on; contracts over them; rows for calls and ends -/
def bW : List Cond := lw_tbl.filter goodWord
theorem bW_good (w : Cond) (h : w ∈ bW) : w ∈ bW ∧ ((w.onTables && w.keeps) = true ∨ ∃ ty, w = .arrayClass ty) := ⟨h, good_of_word (List.mem_filter.mp h).2⟩
theorem bW_lw {w : Cond} (h : w ∈ bW) : w ∈ lw_tbl := (List.mem_filter.mp h).1
abbrev yW (y : MethodName) (cc : ByteArray) (mL : Nat) (rt : Option FieldType) : List Cond := Cond.code y cc mL rt :: bW
theorem bw_c {y : MethodName} {cc : ByteArray} {mL : Nat} {rt : Option FieldType} (h : Cond.code y cc mL rt ∈ bW) : GoodIn bW (yW y cc mL rt) := by
  intro w hw
  rcases List.mem_cons.mp hw with rfl | hw
  · exact bW_good _ h
  · exact bW_good _ hw
theorem bw_V {own : String} {idx : Nat} {C : String} {y : MethodName} {cc : ByteArray} {mL : Nat} {rt : Option FieldType} (h1 : Cond.methodLink own idx y ∈ bW) (h2 : Cond.instanceMethod y ∈ bW) (h3 : Cond.selects C y y ∈ bW) (h4 : Cond.initialized C ∈ bW) (h5 : Cond.code y cc mL rt ∈ bW) : GoodIn bW (wsV own idx C y (yW y cc mL rt)) := by
  intro w hw
  unfold wsV at hw
  rcases List.mem_append.mp hw with hw | hw
  · simp only [List.mem_cons, List.not_mem_nil, or_false] at hw
    rcases hw with rfl | rfl | rfl | rfl
    · exact bW_good _ h1
    · exact bW_good _ h2
    · exact bW_good _ h3
    · exact bW_good _ h4
  · exact bw_c h5 w hw
theorem bw_S {own : String} {idx : Nat} {y : MethodName} {cc : ByteArray} {mL : Nat} {rt : Option FieldType} (h1 : Cond.methodLink own idx y ∈ bW) (h2 : Cond.static y ∈ bW) (h4 : Cond.initialized y.cls ∈ bW) (h5 : Cond.code y cc mL rt ∈ bW) : GoodIn bW (va_wsS own idx y (yW y cc mL rt)) := by
  intro w hw
  unfold va_wsS at hw
  rcases List.mem_append.mp hw with hw | hw
  · simp only [List.mem_cons, List.not_mem_nil, or_false] at hw
    rcases hw with rfl | rfl | rfl
    · exact bW_good _ h1
    · exact bW_good _ h2
    · exact bW_good _ h4
  · exact bw_c h5 w hw
/-- the classes of the arrays -/
abbrev tyL (ty : Nat → ClassId) : List (ClassId × FieldType) := [(ty 0, .byte), (ty 1, .int), (ty 2, .long), (ty 3, .boolean), (ty 4, .object "OneWays$Slot"), (ty 5, .object "OneWays$State"), (ty 6, .array .int)]
/-- what of the tables isn't among the words that calls carry on -/
def nW (ty : Nat → ClassId) (U : State) : Prop :=
  va_Nw (.methodLinkNest RX11 19 yX9_init "OneWays") U ∧ va_Nw (.methodLinkNest RX9 11 yX7_init "OneWays") U ∧ va_Nw (.methodLinkNest RX9 20 yX8_init "OneWays") U ∧ va_Nw (.methodLinkNest RX8 51 yX1_init "OneWays") U ∧ va_Nw (.methodLinkNest RX8 58 yX6_init "OneWays") U ∧
  va_Nw (.methodLinkNest RX11 26 yX5_init "OneWays") U ∧ va_Nw (.methodLinkNest RX5 11 yX8_init "OneWays") U ∧ va_Nw (.methodLinkNest RX11 43 yX2_init "OneWays") U ∧ va_Nw (.methodLinkNest RX11 87 yX4_init "OneWays") U ∧
  va_AO "OneWays$Slot" U ∧ va_AO "OneWays$State" U ∧ ∃ k : Class, U.vm.classes[ty 6]? = some k ∧ k.kind = .array (ty 1) (.array .int)
theorem nW.same {ty : Nat → ClassId} {u U : State} (h : u.vm = U.vm) (hZ : nW ty u) : nW ty U := by
  obtain ⟨h1, h2, h3, h4, h5, h6, h7, h8, h9, a1, a2, k, k1, k2⟩ := hZ
  have al : u.vm.Alike U.vm := by rw [h]; exact Vm.Alike.refl _
  exact ⟨h1.same rfl h, h2.same rfl h, h3.same rfl h, h4.same rfl h, h5.same rfl h, h6.same rfl h, h7.same rfl h, h8.same rfl h, h9.same rfl h, a1.moved al, a2.moved al, k, by rw [← h]; exact k1, k2⟩
theorem nW.moved {ty : Nat → ClassId} {s U : State} (hW : s.WarmedH U.vm) (hZ : nW ty s) : nW ty U := by
  obtain ⟨h1, h2, h3, h4, h5, h6, h7, h8, h9, a1, a2, k, k1, k2⟩ := hZ
  obtain ⟨k', hk', he⟩ := hW.alike.2.2 _ _ k1
  exact ⟨h1.warmM hW, h2.warmM hW, h3.warmM hW, h4.warmM hW, h5.warmM hW, h6.warmM hW, h7.warmM hW, h8.warmM hW, h9.warmM hW, a1.moved hW.alike, a2.moved hW.alike, k', hk', by rw [he]; exact k2⟩
def kK (D : va_G) (ty : Nat → ClassId) (U : State) : Prop := va_K D vwCl (tyL ty) U ∧ nW ty U
/-- a method's start -/
def pR (D : va_G) (ty : Nat → ClassId) (w : va_W) (sz : Nat) (U : State) : Prop := U.heap.size = sz ∧ va_P D vwCl w U.heap ∧ kK D ty U ∧ va_D (fun _ => True) w
theorem pR_blind {av : List Value} {D : va_G} {ty : Nat → ClassId} {w : va_W} {sz : Nat} : FrameBlind (va_Pc av (pR D ty w sz)) := fun a U g mk q =>
  ⟨q.1, q.2.1, q.2.2.1, ⟨va_K.moved (u := U) (U := U.calling g mk a) (Vm.Alike.refl U.vm) q.2.2.2.1.1, q.2.2.2.1.2.same (U := U.calling g mk a) rfl⟩, q.2.2.2.2⟩
/-- a method's end: an int, the cells that it leaves -/
def qI (post : Int32 → va_W → Prop) (D : va_G) (A : Nat → Prop) : Array Value → State → Outcome → State → Prop := va_Qi post (fun u t => va_P D vwCl u t.heap ∧ va_D A u) A
def qL (post : Int64 → va_W → Prop) (D : va_G) (A : Nat → Prop) : Array Value → State → Outcome → State → Prop := va_Ql post (fun u t => va_P D vwCl u t.heap ∧ va_D A u) A
def qV (post : va_W → Prop) (D : va_G) (A : Nat → Prop) : Array Value → State → Outcome → State → Prop := va_Qv post (fun u t => va_P D vwCl u t.heap ∧ va_D A u) A
/-- contracts -/
def cQ (l : Launch) (y : MethodName) (cc : ByteArray) (mL : Nat) (rt : Option FieldType) (fr lo : Nat) (av : List Value) (D : va_G) (ty : Nat → ClassId) (w : va_W) (sz : Nat) (Qc : va_G → (Nat → Prop) → Array Value → State → Outcome → State → Prop) (mc ms : Nat) : Prop :=
  Met l y (yW y cc mL rt) ({ frames := fr, cells := mc, slots := ms, locals := lo }) (va_Pc av (pR D ty w sz)) (Qc D (va_A w sz)) mc ms (va_A w sz)
/-- what a walk stands on -/
def cX (p : Program) (s : State) (m : MethodId) (args : Array Value) (meth : Method) (c : Code) (y : MethodName) (cc : ByteArray) (nL : Nat) (rt : Option FieldType) : Prop :=
  p.tables.exec = Jvm.exec ∧ c.code = cc ∧ c.maxLocals = nL ∧ s.vm.findClass y.cls = some m.cls ∧ (∀ w ∈ bW, w.before args s = true) ∧ meth.sig.returnType = rt ∧ meth.locks = false ∧ meth.name = y.name
theorem cQ.of {l : Launch} {y : MethodName} {cc : ByteArray} {mL : Nat} {rt : Option FieldType} {fr lo : Nat} {av : List Value} {D : va_G} {ty : Nat → ClassId} {w : va_W} {sz : Nat} {Qc : va_G → (Nat → Prop) → Array Value → State → Outcome → State → Prop} {mc ms : Nat}
    (hy : plainName y.cls = true) (hav : (lg_sl av).length ≤ mL)
    (body : ∀ (p : Program) (e : Env) (s : State) (m : MethodId) (below : List Frame) (meth : Method) (c : Code) (A : Nat → Prop) (ls : Array Slot), cX p s m av.toArray meth c y cc mL rt → s.heap.size = sz → va_P D vwCl w s.heap → kK D ty s → va_D A w → (∀ q, s.heap.size ≤ q → A q) → lv_has ls mL (lv_args 0 av) →
      W p l e ({ frames := fr, cells := mc, slots := ms, locals := lo }) s m av.toArray below meth c s.heap [] 0 0 (MQ below (Qc D A) av.toArray s mc ms A) (F0 m 0 ls [])) : cQ l y cc mL rt fr lo av D ty w sz Qc mc ms := by
  refine Met.ofW (cc := cc) (maxL := mL) (ret := rt) hy rfl ?_
  intro p e s m args below meth c s₁ B hml hv
  obtain ⟨rfl, hsz, hP, hK, hD0⟩ := hv
  have hts := atoms_spec (ws := yW y cc mL rt) B.pre
  have hl := lv_entry av (n := mL) hav
  rw [lg_entry_eq]
  generalize (lg_sl av ++ List.replicate (mL - (lg_sl av).length) Slot.unset).toArray = ls at hl ⊢
  exact body p e s m below meth c (va_A w sz) ls ⟨B.exec, B.bytes, hml, findClass_of_methodNamed B.named, fun w h => hts w (List.mem_cons_of_mem _ h), B.returns, B.notSynchronized, (name_of_methodNamed B.named B.method).1⟩ hsz hP hK (hD0.self (sz := sz)) (fun q h => Or.inr (by rw [← hsz]; exact h)) hl
section BAS
variable {p : Program} {l : Launch} {e : Env} {R : Room} {s : State} {m : MethodId} {args : Array Value} {below : List Frame} {meth : Method} {c : Code} {H : Heap} {locs : List Loc} {cells slots : Nat} {Q : State → Prop}
variable {cc : ByteArray} {pc : Nat} {ls : Array Slot} {rest st0 : List Value} {D : va_G} {A : Nat → Prop} {ty : Nat → ClassId} {ws wc wr : va_W} {H0 : Heap} {a : Array Value} {mc ms : Nat}
/-- a number by another name -/
theorem tp_i {x v : Int32} (h : x = v) (k : W p l e R s m args below meth c H locs cells slots Q (F0 m pc ls (.int v :: rest))) : W p l e R s m args below meth c H locs cells slots Q (F0 m pc ls (.int x :: rest)) := by subst h; exact k
theorem tp_l {x v : Int64} (h : x = v) (k : W p l e R s m args below meth c H locs cells slots Q (F0 m pc ls (.long v :: rest))) : W p l e R s m args below meth c H locs cells slots Q (F0 m pc ls (.long x :: rest)) := by subst h; exact k
theorem tp_v {x v : Value} (h : x = v) (k : W p l e R s m args below meth c H locs cells slots Q (F0 m pc ls (v :: rest))) : W p l e R s m args below meth c H locs cells slots Q (F0 m pc ls (x :: rest)) := by subst h; exact k
theorem tp_w {u v : va_W} (h : u = v) (hP : va_P D vwCl u H) (hD : va_D A u) : va_P D vwCl v H ∧ va_D A v := by subst h; exact ⟨hP, hD⟩
theorem fm_of {α : Type} {f : Nat → Option α} : ∀ (is : List Nat) (w : List α), is.map f = w.map some → is.filterMap f = w
  | [], [], _ => rfl
  | [], _ :: _, h => by cases h
  | _ :: _, [], h => by cases h
  | i :: is, x :: w, h => by
    have h1 : f i = some x := (List.cons.inj h).1
    have h2 : is.map f = w.map some := (List.cons.inj h).2
    rw [List.filterMap_cons, h1, fm_of is w h2]
/-- what a call starts from -/
theorem kp_S {av : List Value} (hK : kK D ty s) (hP : va_P D vwCl ws H) (hD : va_D A ws) (isC : List Nat) (hn : va_nd isC = true) (hC : isC.map (fun i => ws[i]?) = wc.map some) : PreS s H (va_Pc av (pR D ty wc H.size)) av :=
  ⟨pR_blind, fun U hU hW => ⟨rfl, by rw [hU], by rw [hU]; exact hP.sub isC (fm_of _ _ hC), ⟨va_K.moved hW.alike hK.1, hK.2.moved hW⟩, (hD.sub isC hn hC).weaken (fun _ _ _ _ => trivial)⟩⟩
theorem kp_V {b : Nat} {As : List Value} {C : String} (hK : kK D ty s) (hP : va_P D vwCl ws H) (hD : va_D A ws) (isC : List Nat) (hn : va_nd isC = true) (hC : isC.map (fun i => ws[i]?) = wc.map some) {ci : Nat} {fs : List Value} {q : vw_C} (q0 : Nat) (he : ws[q0]? = some (b, .inr (ci, fs))) (hc : vwCl[ci]? = some q) (hq : q.1 = C) : PreV s H C b (va_Pc (.ref b :: As) (pR D ty wc H.size)) As := by
  subst hq
  exact ⟨pR_blind, va_recv hK.1 hP hc he, (kp_S hK hP hD isC hn hC).2⟩
/-- behind a call: the rest's cells, and those that it leaves -/
theorem kc_i {post : Int32 → va_W → Prop} (hr : va_Run p l e R s m args below meth c H locs cells slots mc ms (F0 m pc ls st0) rest (qI post D (va_A wc H.size) a) (va_A wc H.size)) (hP : va_P D vwCl ws H) (hD : va_D A ws) (hS : va_S A H0 H locs) (hA : ∀ q, H0.size ≤ q → A q)
    (isC isR : List Nat) (hC : isC.map (fun i => ws[i]?) = wc.map some) (hR : isR.map (fun i => ws[i]?) = wr.map some) (hn : va_nd isR = true) (hdis : ∀ i ∈ isR, i ∉ isC)
    (kk : ∀ (r : Int32) (u : va_W) (H1 : Heap) (locs1 : List Loc), post r u → va_P D vwCl (wr ++ u) H1 → va_D A (wr ++ u) → va_S A H0 H1 locs1 → W p l e R s m args below meth c H1 locs1 (cells + mc) (slots + ms) Q (F0 m (pc + 3) ls (.int r :: rest))) : W p l e R s m args below meth c H locs cells slots Q (F0 m pc ls st0) := by
  have hF := va_free (wc := wc) hD hS hA isC hC
  refine va_calli hr hS (fun q _ h => hF q h) hF (fun r u t H1 locs1 ht hvm hw hB hz hk hS1 => ?_)
  subst ht
  obtain ⟨hP2, hD2⟩ := va_join hP hD isC isR hC hR hn hdis hk hF hB.1 hB.2
  exact kk r u _ locs1 hw hP2 hD2 hS1
theorem kc_l {post : Int64 → va_W → Prop} (hr : va_Run p l e R s m args below meth c H locs cells slots mc ms (F0 m pc ls st0) rest (qL post D (va_A wc H.size) a) (va_A wc H.size)) (hP : va_P D vwCl ws H) (hD : va_D A ws) (hS : va_S A H0 H locs) (hA : ∀ q, H0.size ≤ q → A q)
    (isC isR : List Nat) (hC : isC.map (fun i => ws[i]?) = wc.map some) (hR : isR.map (fun i => ws[i]?) = wr.map some) (hn : va_nd isR = true) (hdis : ∀ i ∈ isR, i ∉ isC)
    (kk : ∀ (r : Int64) (u : va_W) (H1 : Heap) (locs1 : List Loc), post r u → va_P D vwCl (wr ++ u) H1 → va_D A (wr ++ u) → va_S A H0 H1 locs1 → W p l e R s m args below meth c H1 locs1 (cells + mc) (slots + ms) Q (F0 m (pc + 3) ls (.long r :: rest))) : W p l e R s m args below meth c H locs cells slots Q (F0 m pc ls st0) := by
  have hF := va_free (wc := wc) hD hS hA isC hC
  refine va_calll hr hS (fun q _ h => hF q h) hF (fun r u t H1 locs1 ht hvm hw hB hz hk hS1 => ?_)
  subst ht
  obtain ⟨hP2, hD2⟩ := va_join hP hD isC isR hC hR hn hdis hk hF hB.1 hB.2
  exact kk r u _ locs1 hw hP2 hD2 hS1
theorem kc_v {post : va_W → Prop} (hr : va_Run p l e R s m args below meth c H locs cells slots mc ms (F0 m pc ls st0) rest (qV post D (va_A wc H.size) a) (va_A wc H.size)) (hP : va_P D vwCl ws H) (hD : va_D A ws) (hS : va_S A H0 H locs) (hA : ∀ q, H0.size ≤ q → A q)
    (isC isR : List Nat) (hC : isC.map (fun i => ws[i]?) = wc.map some) (hR : isR.map (fun i => ws[i]?) = wr.map some) (hn : va_nd isR = true) (hdis : ∀ i ∈ isR, i ∉ isC)
    (kk : ∀ (u : va_W) (H1 : Heap) (locs1 : List Loc), post u → va_P D vwCl (wr ++ u) H1 → va_D A (wr ++ u) → va_S A H0 H1 locs1 → W p l e R s m args below meth c H1 locs1 (cells + mc) (slots + ms) Q (F0 m (pc + 3) ls rest)) : W p l e R s m args below meth c H locs cells slots Q (F0 m pc ls st0) := by
  have hF := va_free (wc := wc) hD hS hA isC hC
  refine va_callv hr hS (fun q _ h => hF q h) hF (fun u t H1 locs1 ht hvm hw hB hz hk hS1 => ?_)
  subst ht
  obtain ⟨hP2, hD2⟩ := va_join hP hD isC isR hC hR hn hdis hk hF hB.1 hB.2
  exact kk u _ locs1 hw hP2 hD2 hS1
/-- ends -/
theorem kr_z {post : Int32 → va_W → Prop} {v : Int32} {rt : FieldType} (hx : p.tables.exec = Jvm.exec) (hb : c.code = cc) (hr : meth.sig.returnType = some rt) (hnr : narrow rt (.int v) = .int v) (hlocks : meth.locks = false) (hP : va_P D vwCl ws H) (hD : va_D A ws) (hS : va_S A s.heap H locs)
    (u : va_W) (is : List Nat) (hn : va_nd is = true) (hu : is.map (fun i => ws[i]?) = u.map some) (hpost : post v u) (h1 : cells ≤ mc) (h2 : slots ≤ ms) (hdg : decode cc pc = .ok (.ireturn, 1)) :
    W p l e R s m args below meth c H locs cells slots (MQ below (qI post D A) args s mc ms A) (F0 m pc ls [.int v]) := by
  refine W.widen h1 h2 ?_
  exact W.zret hx hb hr hnr (fun t ht hW => ⟨⟨v, u, rfl, hpost, by rw [ht]; exact hP.sub is (fm_of _ _ hu), hD.sub is hn hu⟩, hS.F ht⟩) hS.2.2 hdg hlocks
theorem kr_l {post : Int64 → va_W → Prop} {v : Int64} (hx : p.tables.exec = Jvm.exec) (hb : c.code = cc) (hr : meth.sig.returnType = some .long) (hlocks : meth.locks = false) (hP : va_P D vwCl ws H) (hD : va_D A ws) (hS : va_S A s.heap H locs)
    (u : va_W) (is : List Nat) (hn : va_nd is = true) (hu : is.map (fun i => ws[i]?) = u.map some) (hpost : post v u) (h1 : cells ≤ mc) (h2 : slots ≤ ms) (hdg : decode cc pc = .ok (.lreturn, 1)) :
    W p l e R s m args below meth c H locs cells slots (MQ below (qL post D A) args s mc ms A) (F0 m pc ls [.long v]) := by
  refine W.widen h1 h2 ?_
  exact W.lret hx hb hr (fun t ht hW => ⟨⟨v, u, rfl, hpost, by rw [ht]; exact hP.sub is (fm_of _ _ hu), hD.sub is hn hu⟩, hS.F ht⟩) hS.2.2 hdg hlocks
theorem kr_v {post : va_W → Prop} (hx : p.tables.exec = Jvm.exec) (hb : c.code = cc) (hr : meth.sig.returnType = none) (hlocks : meth.locks = false) (hP : va_P D vwCl ws H) (hD : va_D A ws) (hS : va_S A s.heap H locs)
    (u : va_W) (is : List Nat) (hn : va_nd is = true) (hu : is.map (fun i => ws[i]?) = u.map some) (hpost : post u) (h1 : cells ≤ mc) (h2 : slots ≤ ms) (hdg : decode cc pc = .ok (.return_, 1)) :
    W p l e R s m args below meth c H locs cells slots (MQ below (qV post D A) args s mc ms A) (F0 m pc ls []) := by
  refine W.widen h1 h2 ?_
  exact W.vret hx hb hr (fun t ht hW => ⟨⟨u, rfl, hpost, by rw [ht]; exact hP.sub is (fm_of _ _ hu), hD.sub is hn hu⟩, hS.F ht⟩) hS.2.2 hdg hlocks
end BAS
