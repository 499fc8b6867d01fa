/-! contents of arrays: what lies beyond the length doesn't count -/
theorem cx_i {cA : ClassId} {n : Nat} {f g : Nat → Int32} (h : ∀ j, j < n → f j = g j) : vp_cell cA (n, .inl f) = vp_cell cA (n, .inl g) := by
  rw [vp_cell_i, vp_cell_i]
  unfold arrV
  congr 1
  apply congrArg
  funext j
  exact congrArg Value.int (h j.val j.isLt)
theorem cx_l {cA : ClassId} {n : Nat} {f g : Nat → Int64} (h : ∀ j, j < n → f j = g j) : vp_cell cA (n, .inr (.inl f)) = vp_cell cA (n, .inr (.inl g)) := by
  rw [vp_cell_l, vp_cell_l]
  unfold arrV
  congr 1
  apply congrArg
  funext j
  exact congrArg Value.long (h j.val j.isLt)
/-- one cell's contents by others that are alike within the length -/
theorem cx_P {D : va_G} {cl : List vw_C} {ws : va_W} {H : Heap} {q0 a : Nat} {cA : ClassId} {x y : vp_A} (hP : va_P D cl ws H) (ha : ws[q0]? = some (a, .inl (cA, x))) (hxy : vp_cell cA x = vp_cell cA y) : va_P D cl (ws.set q0 (a, .inl (cA, y))) H := by
  intro k q hq
  by_cases e : q0 = k
  · subst e
    have hlt : q0 < ws.length := (List.getElem?_eq_some_iff.mp ha).1
    rw [List.getElem?_set_self hlt] at hq
    cases hq
    show H[a]? = some (vp_cell cA y)
    rw [← hxy]
    exact hP q0 _ ha
  · rw [List.getElem?_set_ne e] at hq
    exact hP k q hq
theorem cx_D {A : Nat → Prop} {ws : va_W} {q0 a : Nat} {x y : va_E} (hD : va_D A ws) (ha : ws[q0]? = some (a, x)) : va_D A (ws.set q0 (a, y)) := by
  have hlt : q0 < ws.length := (List.getElem?_eq_some_iff.mp ha).1
  have key : ∀ (k : Nat) (q : Nat × va_E), (ws.set q0 (a, y))[k]? = some q → ∃ q', ws[k]? = some q' ∧ q'.1 = q.1 := by
    intro k q hq
    by_cases e : q0 = k
    · subst e
      rw [List.getElem?_set_self hlt] at hq
      cases hq
      exact ⟨_, ha, rfl⟩
    · rw [List.getElem?_set_ne e] at hq
      exact ⟨q, hq, rfl⟩
  refine ⟨fun i j p q hi hj hpq => ?_, fun k q hq => ?_⟩
  · obtain ⟨p', hp', e1⟩ := key i p hi
    obtain ⟨q', hq', e2⟩ := key j q hj
    exact hD.1 i j p' q' hp' hq' (by rw [e1, e2, hpq])
  · obtain ⟨q', hq', e1⟩ := key k q hq
    rw [← e1]
    exact hD.2 k q' hq'
