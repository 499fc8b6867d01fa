/-! String constants: contracts that stand on them -/
def soS : List String := ["OneWays$TownReader", "OneWays$TownReader", "OneWays$TownReader", "OneWays$TownReader", "OneWays$TownReader", "OneWays$TownReader", "OneWays$TownReader", "OneWays$TownReader", "OneWays$TownReader", "OneWays$TownReader", "OneWays$TownReader", "OneWays$TownReader", "OneWaysModel", "OneWaysModel", "OneWaysModel", "OneWaysModel", "OneWaysModel", "OneWaysModel", "OneWaysModel", "OneWaysModel", "OneWaysModel", "OneWaysModel", "OneWaysModel", "OneWaysModel"]
def seS : List Nat := [51, 60, 65, 70, 75, 80, 101, 107, 116, 121, 123, 142, 186, 192, 200, 202, 203, 205, 207, 209, 211, 213, 214, 225]
def stS : List String := ["alley", "journey", "street", "house", "corners", "grid", "by", "min", "price", "told", "against", "carts", "by", "min", "price", "told", "against", "alley", "street", "journey", "house", "corners", "grid", "carts"]
def slS : List Nat := [5, 7, 6, 5, 7, 4, 2, 3, 5, 4, 7, 5, 2, 3, 5, 4, 7, 5, 6, 7, 5, 7, 4, 5]
def sbS : List (List Int32) := stS.map (fun t => t.toList.map (fun c => Int32.ofNat c.toNat))
def s1 (q v L : Nat) (by0 : List Int32) (A : Nat → Prop) (U : State) (H : Heap) : Prop := va_O "java/lang/String" q A U H ∧ va_OF "java/lang/String" "coder" "B" (.int 0) q A U H ∧ va_OF "java/lang/String" "value" "[B" (.ref v) q A U H ∧ va_T .byte v L (fun j => .int (by0.getD j 0)) A U H
theorem s1.moved {q v L : Nat} {by0 : List Int32} {A : Nat → Prop} {u U : State} {H : Heap} (hvm : u.vm.Alike U.vm) (h : s1 q v L by0 A u H) : s1 q v L by0 A U H := ⟨h.1.moved hvm, h.2.1.moved hvm, h.2.2.1.moved hvm, h.2.2.2.moved hvm⟩
theorem s1.kept {q v L : Nat} {by0 : List Int32} {A : Nat → Prop} {U : State} {H H1 : Heap} (h : s1 q v L by0 A U H) (hq : ∀ a : Nat, a < H.size → ¬ A a → H1[a]? = H[a]?) : s1 q v L by0 A U H1 := ⟨h.1.kept hq, h.2.1.kept hq, h.2.2.1.kept hq, h.2.2.2.kept hq⟩
theorem s1.narrow {q v L : Nat} {by0 : List Int32} {A B : Nat → Prop} {U : State} {H : Heap} (h : s1 q v L by0 A U H) (hAB : ∀ q, B q → A q) : s1 q v L by0 B U H := ⟨h.1.narrow hAB, h.2.1.narrow hAB, h.2.2.1.narrow hAB, h.2.2.2.narrow hAB⟩
def sE (K V : Nat → Nat) (fm : Value) (A : Nat → Prop) (U : State) (H : Heap) : Prop :=
  (∀ i, i < 24 → s1 (K i) (V i) (slS.getD i 0) (sbS.getD i []) A U H) ∧ va_Z "java/lang/String" "COMPACT_STRINGS" "Z" (.int 1) A U H ∧ (va_Z "jdk/internal/util/Preconditions" "SIOOBE_FORMATTER" "Ljava/util/function/BiFunction;" fm A U H ∧ (fm = .null ∨ ∃ t, fm = .ref t)) ∧ ∀ i, i < 24 → vk_R (soS.getD i "") (seS.getD i 0) (stS.getD i "") (K i) U
theorem sE.same {K V : Nat → Nat} {fm : Value} {A : Nat → Prop} {u U : State} {H : Heap} (hv : U.vm = u.vm) (h : sE K V fm A u H) : sE K V fm A U H := by
  have al : u.vm.Alike U.vm := by rw [hv]; exact Vm.Alike.refl _
  exact ⟨fun i hi => (h.1 i hi).moved al, h.2.1.moved al, ⟨h.2.2.1.1.moved al, h.2.2.1.2⟩, fun i hi => (h.2.2.2 i hi).same hv⟩
theorem sE.to {K V : Nat → Nat} {fm : Value} {A B : Nat → Prop} {s U : State} {H : Heap} (hW : s.WarmedH U.vm) (hq : ∀ a : Nat, a < s.heap.size → ¬ A a → H[a]? = s.heap[a]?) (hAB : ∀ q, B q → A q) (h : sE K V fm A s s.heap) : sE K V fm B U H :=
  ⟨fun i hi => (((h.1 i hi).kept hq).narrow hAB).moved hW.alike, ((h.2.1.kept hq).narrow hAB).moved hW.alike, ⟨((h.2.2.1.1.kept hq).narrow hAB).moved hW.alike, h.2.2.1.2⟩, fun i hi => (h.2.2.2 i hi).warm hW⟩
def sP (D : va_G) (ty : Nat → ClassId) (K V : Nat → Nat) (fm : Value) (w : va_W) (sz : Nat) (U : State) : Prop := pR D ty w sz U ∧ sE K V fm (va_A w sz) U U.heap
theorem sP_blind {av : List Value} {D : va_G} {ty : Nat → ClassId} {K V : Nat → Nat} {fm : Value} {w : va_W} {sz : Nat} : FrameBlind (va_Pc av (sP D ty K V fm w sz)) := fun a U g mk q =>
  ⟨q.1, (pR_blind (av := av) a U g mk ⟨q.1, q.2.1⟩).2, q.2.2.same (U := U.calling g mk a) rfl⟩
def cS (l : Launch) (y : MethodName) (cc : ByteArray) (mL : Nat) (rt : Option FieldType) (fr lo : Nat) (av : List Value) (D : va_G) (ty : Nat → ClassId) (K V : Nat → Nat) (fm : Value) (w : va_W) (sz : Nat) (Qc : va_G → (Nat → Prop) → Array Value → State → Outcome → State → Prop) (mc ms : Nat) : Prop :=
  Met l y (yW y cc mL rt) ({ frames := fr, cells := mc, slots := ms, locals := lo }) (va_Pc av (sP D ty K V fm w sz)) (Qc D (va_A w sz)) mc ms (va_A w sz)
theorem cS.of {l : Launch} {y : MethodName} {cc : ByteArray} {mL : Nat} {rt : Option FieldType} {fr lo : Nat} {av : List Value} {D : va_G} {ty : Nat → ClassId} {K V : Nat → Nat} {fm : Value} {w : va_W} {sz : Nat} {Qc : va_G → (Nat → Prop) → Array Value → State → Outcome → State → Prop} {mc ms : Nat}
    (hy : plainName y.cls = true) (hav : (lg_sl av).length ≤ mL)
    (body : ∀ (p : Program) (e : Env) (s : State) (m : MethodId) (below : List Frame) (meth : Method) (c : Code) (A : Nat → Prop) (ls : Array Slot), cX p s m av.toArray meth c y cc mL rt → s.heap.size = sz → va_P D vwCl w s.heap → kK D ty s → va_D A w → (∀ q, s.heap.size ≤ q → A q) → sE K V fm A s s.heap → lv_has ls mL (lv_args 0 av) →
      W p l e ({ frames := fr, cells := mc, slots := ms, locals := lo }) s m av.toArray below meth c s.heap [] 0 0 (MQ below (Qc D A) av.toArray s mc ms A) (F0 m 0 ls [])) : cS l y cc mL rt fr lo av D ty K V fm w sz Qc mc ms := by
  refine Met.ofW (cc := cc) (maxL := mL) (ret := rt) hy rfl ?_
  intro p e s m args below meth c s₁ B hml hv
  obtain ⟨rfl, ⟨hsz, hP, hK, hD0⟩, hE⟩ := hv
  have hts := atoms_spec (ws := yW y cc mL rt) B.pre
  have hl := lv_entry av (n := mL) hav
  rw [lg_entry_eq]
  generalize (lg_sl av ++ List.replicate (mL - (lg_sl av).length) Slot.unset).toArray = ls at hl ⊢
  exact body p e s m below meth c (va_A w sz) ls ⟨B.exec, B.bytes, hml, findClass_of_methodNamed B.named, fun w h => hts w (List.mem_cons_of_mem _ h), B.returns, B.notSynchronized, (name_of_methodNamed B.named B.method).1⟩ hsz hP hK (hD0.self (sz := sz)) (fun q h => Or.inr (by rw [← hsz]; exact h)) hE hl
section STR
variable {p : Program} {l : Launch} {e : Env} {R : Room} {s : State} {m : MethodId} {args : Array Value} {below : List Frame} {meth : Method} {c : Code} {H : Heap} {locs : List Loc} {cells slots : Nat} {Q : State → Prop}
variable {cc : ByteArray} {pc : Nat} {ls : Array Slot} {rest st0 : List Value} {D : va_G} {A : Nat → Prop} {ty : Nat → ClassId} {ws wc wr : va_W} {H0 : Heap} {K V : Nat → Nat} {fm : Value}
theorem kpS_S {av : List Value} (hE : sE K V fm A s s.heap) (hS : va_S A s.heap H locs) (hA : ∀ q, s.heap.size ≤ q → A q) (hK : kK D ty s) (hP : va_P D vwCl ws H) (hD : va_D A ws) (isC : List Nat) (hn : va_nd isC = true) (hC : isC.map (fun i => ws[i]?) = wc.map some) : PreS s H (va_Pc av (sP D ty K V fm wc H.size)) av :=
  ⟨sP_blind, fun U hU hW => ⟨rfl, ⟨by rw [hU], by rw [hU]; exact hP.sub isC (fm_of _ _ hC), ⟨va_K.moved hW.alike hK.1, hK.2.moved hW⟩, (hD.sub isC hn hC).weaken (fun _ _ _ _ => trivial)⟩, by rw [hU]; exact hE.to hW hS.2.1 (va_free (wc := wc) hD hS hA isC hC)⟩⟩
theorem kpS_V {b : Nat} {As : List Value} {C : String} (hE : sE K V fm A s s.heap) (hS : va_S A s.heap H locs) (hA : ∀ q, s.heap.size ≤ q → A q) (hK : kK D ty s) (hP : va_P D vwCl ws H) (hD : va_D A ws) (isC : List Nat) (hn : va_nd isC = true) (hC : isC.map (fun i => ws[i]?) = wc.map some) {ci : Nat} {fs : List Value} {q : vw_C} (q0 : Nat) (he : ws[q0]? = some (b, .inr (ci, fs))) (hc : vwCl[ci]? = some q) (hq : q.1 = C) : PreV s H C b (va_Pc (.ref b :: As) (sP D ty K V fm wc H.size)) As := by
  subst hq
  exact ⟨sP_blind, va_recv hK.1 hP hc he, (kpS_S hE hS hA hK hP hD isC hn hC).2⟩
/-- a String's own method -/
theorem kpS_K {i : Nat} {As : List Value} (hi : i < 24) (hE : sE K V fm A s s.heap) (hS : va_S A s.heap H locs) (hA : ∀ q, s.heap.size ≤ q → A q) (hK : kK D ty s) (hP : va_P D vwCl ws H) (hD : va_D A ws) : PreV s H "java/lang/String" (K i) (va_Pc (.ref (K i) :: As) (sP D ty K V fm [] H.size)) As :=
  ⟨sP_blind, (by obtain ⟨cell, h1, h2, h3, -⟩ := (hE.1 i hi).1.kept hS.2.1; exact ⟨cell, h1, h2, h3⟩), (kpS_S (wc := []) hE hS hA hK hP hD [] (by decide) rfl).2⟩
end STR
theorem lenZ {n : Nat} {z : Int} (h : n = z.toNat) (h0 : 0 ≤ z) (h1 : z ≤ 1000) : Int32.ofNat n = zI z := by
  rw [← Int32.toInt_inj, zI_toInt ⟨by omega, by omega⟩, Int32.toInt_ofNat_small (by omega)]
  omega
theorem inZ {n : Nat} {z L : Int} (h : n = L.toNat) (h0 : 0 ≤ z) (h1 : z < L) (h2 : L ≤ 1000) : vp_in (zI z) n := zI_in h0 (by omega) (by omega)
theorem i2c_all : ∀ k : Fin 256, ((zI (k.val : Int)).toUInt32 % 65536).toInt32 = zI (k.val : Int) := by decide +kernel
theorem i2c_z {z : Int} (h0 : 0 ≤ z) (h1 : z ≤ 255) : ((zI z).toUInt32 % 65536).toInt32 = zI z := by
  obtain ⟨k, rfl⟩ := Int.eq_ofNat_of_zero_le h0
  exact i2c_all ⟨k, by omega⟩
theorem nar_c {z : Int} (h0 : 0 ≤ z) (h1 : z ≤ 255) : narrow .char (.int (zI z)) = .int (zI z) := by
  show Value.int (((zI z).toUInt32 % 65536).toInt32) = .int (zI z)
  rw [i2c_z h0 h1]
theorem shr0 (x : Int32) : x >>> (zI 0 &&& 31) = x := by
  have h : (zI 0 &&& 31 : Int32) = 0 := by decide
  rw [h]
  exact Int32.shiftRight_zero
/-- whether a word stands there -/
def chS (i : Nat) (k : Int) : Int := ((sbS.getD i []).getD k.toNat 0 &&& zI 255).toInt
theorem chS_of {i : Nat} {k x z : Int} (e : (sbS.getD i []).getD (zI k).toNatClampNeg 0 = zI x) (h : z = (zI x &&& zI 255).toInt) (h0 : 0 ≤ k) (h1 : k ≤ 1000) : z = chS i k := by
  unfold chS
  rw [zI_clamp h0 (by omega)] at e
  rw [e, h]
def isG (T : Nat → Int) (fr : Int) (i : Nat) (k : Int) : Prop := ∀ j : Int, 0 ≤ j → j < k → T (fr + j : Int).toNat = chS i j
def isC (T : Nat → Int) (tk ap fr fk : Int) (i : Nat) : Prop := (fk = 0 ∧ tk = 1 ∧ ap - fr = ((slS.getD i 0 : Nat) : Int)) ∧ isG T fr i ((slS.getD i 0 : Nat) : Int)
noncomputable def isF (T : Nat → Int) (tk ap fr fk : Int) (i : Nat) : Int := @ite Int (isC T tk ap fr fk i) (Classical.propDecidable _) 1 0
theorem isF_1 {T : Nat → Int} {tk ap fr fk : Int} {i : Nat} (h : isC T tk ap fr fk i) : isF T tk ap fr fk i = 1 := if_pos h
theorem isF_0 {T : Nat → Int} {tk ap fr fk : Int} {i : Nat} (h : ¬ isC T tk ap fr fk i) : isF T tk ap fr fk i = 0 := if_neg h
theorem isF_c (T : Nat → Int) (tk ap fr fk : Int) (i : Nat) : isF T tk ap fr fk i = 0 ∨ (isF T tk ap fr fk i = 1 ∧ fk = 0 ∧ tk = 1 ∧ ap - fr = ((slS.getD i 0 : Nat) : Int) ∧ isG T fr i ((slS.getD i 0 : Nat) : Int)) := by
  by_cases h : isC T tk ap fr fk i
  · exact Or.inr ⟨isF_1 h, h.1.1, h.1.2.1, h.1.2.2, h.2⟩
  · exact Or.inl (isF_0 h)
theorem isF_b (T : Nat → Int) (tk ap fr fk : Int) (i : Nat) : 0 ≤ isF T tk ap fr fk i ∧ isF T tk ap fr fk i ≤ 1 := by
  rcases isF_c T tk ap fr fk i with a | ⟨a, _⟩ <;> rw [a] <;> omega
theorem isF_t (T : Nat → Int) (tk ap fr fk : Int) (i : Nat) (h : 0 ≤ tk) : isF T tk ap fr fk i ≤ tk := by
  rcases isF_c T tk ap fr fk i with a | ⟨a, _, b, _⟩
  · rw [a]; exact h
  · rw [a, b]; omega
theorem isF_n {y : Int} (T : Nat → Int) (tk ap fr fk : Int) (i : Nat) {b : Int} (hy : 0 ≤ y ∧ y ≤ 1) (hb : 0 ≤ b ∧ b ≤ 1) (h : y = 0 → isF T tk ap fr fk i = b) : isF T tk ap fr fk i - b ≤ y ∧ b - isF T tk ap fr fk i ≤ y := by
  have := isF_b T tk ap fr fk i
  by_cases q : y = 0
  · rw [h q]; omega
  · omega
/-- not two words at once -/
theorem isF_l (T : Nat → Int) (tk ap fr fk : Int) {i j : Nat} (h : slS.getD i 0 ≠ slS.getD j 0) : isF T tk ap fr fk i + isF T tk ap fr fk j ≤ 1 := by
  rcases isF_c T tk ap fr fk i with a | ⟨a, _, _, c, _⟩ <;> rcases isF_c T tk ap fr fk j with b | ⟨b, _, _, d, _⟩ <;> rw [a, b] <;> omega
theorem isF_f (T : Nat → Int) (tk ap fr fk : Int) {i j : Nat} (hi : 0 < slS.getD i 0) (hj : 0 < slS.getD j 0) (h : chS i 0 ≠ chS j 0) : isF T tk ap fr fk i + isF T tk ap fr fk j ≤ 1 := by
  rcases isF_c T tk ap fr fk i with a | ⟨a, _, _, _, c⟩ <;> rcases isF_c T tk ap fr fk j with b | ⟨b, _, _, _, d⟩ <;> rw [a, b]
  · omega
  · omega
  · omega
  · exact absurd ((c 0 (by omega) (by omega)).symm.trans (d 0 (by omega) (by omega))) h
def isJ (T : Nat → Int) (tk ap fr fk : Int) (i : Nat) (L k v : Int) : Prop := (v = 0 ∧ isF T tk ap fr fk i = 0) ∨ (v = 1 ∧ (fk = 0 ∧ tk = 1 ∧ ap - fr = L) ∧ isG T fr i k)
section ISJ
variable {T : Nat → Int} {tk ap fr fk L k v : Int} {i : Nat}
theorem isJ_1 (h1 : fk = 0) (h2 : tk = 1) (h3 : ap - fr = L) : isJ T tk ap fr fk i L 0 1 := Or.inr ⟨rfl, ⟨h1, h2, h3⟩, fun j h0 h1 => by omega⟩
theorem isJ_0 (hL : slS.getD i 0 = L.toNat) (h0 : 0 ≤ L) (h : ¬ (fk = 0 ∧ tk = 1 ∧ ap - fr = L)) : isJ T tk ap fr fk i L 0 0 := Or.inl ⟨rfl, isF_0 (fun q => h ⟨q.1.1, q.1.2.1, by have := q.1.2.2; omega⟩)⟩
theorem isJ_s {c : Int} (h : isJ T tk ap fr fk i L k v) (hv : ¬ v = 0) (h0 : 0 ≤ k) (e : T (fr + k : Int).toNat = c) (hc : c = chS i k) : isJ T tk ap fr fk i L (k + 1) 1 := by
  rcases h with ⟨h, _⟩ | ⟨_, h, g⟩
  · exact absurd h hv
  · refine Or.inr ⟨rfl, h, fun j j0 j1 => ?_⟩
    by_cases q : j = k
    · subst q; rw [e, hc]
    · exact g j j0 (by omega)
theorem isJ_f {c : Int} (h : isJ T tk ap fr fk i L k v) (hv : ¬ v = 0) (h0 : 0 ≤ k) (h1 : k < L) (hL : slS.getD i 0 = L.toNat) (e : ¬ T (fr + k : Int).toNat = c) (hc : c = chS i k) : isJ T tk ap fr fk i L (k + 1) 0 := by
  rcases h with ⟨h, _⟩ | ⟨_, h, g⟩
  · exact absurd h hv
  · refine Or.inl ⟨rfl, isF_0 (fun q => e ?_)⟩
    rw [hc]
    exact q.2 k h0 (by omega)
theorem isJ_b (h : isJ T tk ap fr fk i L k v) : v = 0 ∨ ap - fr = L := by
  rcases h with ⟨h, _⟩ | ⟨_, h, _⟩
  · exact Or.inl h
  · exact Or.inr h.2.2
theorem isJ_e0 (h : isJ T tk ap fr fk i L k v) (hv : v = 0) : v = isF T tk ap fr fk i := by
  rcases h with ⟨h, g⟩ | ⟨h, _⟩
  · rw [h, g]
  · omega
theorem isJ_e1 (h : isJ T tk ap fr fk i L k v) (hL : slS.getD i 0 = L.toNat) (h0 : 0 ≤ L) (hk : L ≤ k) : v = isF T tk ap fr fk i := by
  rcases h with ⟨h, g⟩ | ⟨h, g1, g2⟩
  · rw [h, g]
  · rw [h]
    exact (isF_1 ⟨⟨g1.1, g1.2.1, by omega⟩, fun j j0 j1 => g2 j j0 (by omega)⟩).symm
end ISJ
