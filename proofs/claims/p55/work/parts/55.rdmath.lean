/-! the reference reads a text -/
theorem okW.set {F : Nat → Int} (h : okW F) {i : Nat} {v : Int} (h1 : i = 1 → (2 ≤ v ∧ v ≤ 16) ∧ F (2 : Int).toNat ≤ 0) (h2 : i ≠ 2) (h3 : i = 3 → 0 ≤ v ∧ v ≤ 10) (h4 : i = 4 → -1 ≤ v ∧ v ≤ 15) (h5 : i = 5 → 0 ≤ v ∧ v ≤ 6) (h6 : i = 6 ∨ i = 7 → 0 ≤ v ∧ v ≤ 4)
    (ha : ∀ k : Nat, k < 28 → i = 8 + 6 * k ∨ i = 9 + 6 * k → (0 ≤ v ∧ v ≤ 15) ∧ F (2 : Int).toNat ≤ k) (hm : ∀ k : Nat, k < 28 → i = 10 + 6 * k → (0 ≤ v ∧ v ≤ 60) ∧ F (2 : Int).toNat ≤ k)
    (hj : ∀ j : Nat, j < 10 → i = 176 + 3 * j ∨ i = 177 + 3 * j → 0 ≤ v ∧ v ≤ 15) (hs : ∀ s : Nat, s < 6 → i = 206 + 7 * s → 0 ≤ v ∧ v ≤ 6) (he : ∀ s x : Nat, s < 6 → 1 ≤ x → x ≤ 6 → i = 206 + 7 * s + x → 0 ≤ v ∧ v ≤ 27) : okW (uZ F i v) := by
  have h1 : i = 1 → (2 ≤ v ∧ v ≤ 16) ∧ F 2 ≤ 0 := h1
  have ha : ∀ k : Nat, k < 28 → i = 8 + 6 * k ∨ i = 9 + 6 * k → (0 ≤ v ∧ v ≤ 15) ∧ F 2 ≤ k := ha
  have hm : ∀ k : Nat, k < 28 → i = 10 + 6 * k → (0 ≤ v ∧ v ≤ 60) ∧ F 2 ≤ k := hm
  have u : ∀ j, j = i ∧ uZ F i v j = v ∨ j ≠ i ∧ uZ F i v j = F j := by
    intro j
    by_cases e : j = i
    · exact Or.inl ⟨e, uZ_eq e⟩
    · exact Or.inr ⟨e, uZ_ne e⟩
  have c2 := h.c2'
  have e2 : uZ F i v 2 = F 2 := uZ_ne (by omega)
  refine ⟨?_, ?_, ?_, ?_, ?_, ?_, ?_, ?_, ?_, ?_, ?_, ?_⟩
  · have := h.c1'; rcases u 1 with ⟨e, q⟩ | ⟨e, q⟩ <;> rw [q]
    · exact (h1 e.symm).1
    · exact this
  · rw [e2]; exact c2
  · have := h.c3'; rcases u 3 with ⟨e, q⟩ | ⟨e, q⟩ <;> rw [q]
    · exact h3 e.symm
    · exact this
  · have := h.c4'; rcases u 4 with ⟨e, q⟩ | ⟨e, q⟩ <;> rw [q]
    · exact h4 e.symm
    · exact this
  · have := h.c5'; rcases u 5 with ⟨e, q⟩ | ⟨e, q⟩ <;> rw [q]
    · exact h5 e.symm
    · exact this
  · have := h.c6'; rcases u 6 with ⟨e, q⟩ | ⟨e, q⟩ <;> rw [q]
    · exact h6 (Or.inl e.symm)
    · exact this
  · have := h.c7'; rcases u 7 with ⟨e, q⟩ | ⟨e, q⟩ <;> rw [q]
    · exact h6 (Or.inr e.symm)
    · exact this
  · intro k hk
    have q := h.al' k hk
    refine ⟨?_, ?_, ?_⟩
    · rcases u (8 + 6 * k) with ⟨e, w⟩ | ⟨e, w⟩ <;> rw [w]
      · exact (ha k hk (Or.inl e.symm)).1
      · exact q.1
    · rcases u (9 + 6 * k) with ⟨e, w⟩ | ⟨e, w⟩ <;> rw [w]
      · exact (ha k hk (Or.inr e.symm)).1
      · exact q.2.1
    · rcases u (10 + 6 * k) with ⟨e, w⟩ | ⟨e, w⟩ <;> rw [w]
      · exact (hm k hk e.symm).1
      · exact q.2.2
  · intro k hk
    rw [e2] at hk
    have q := h.mn' k hk
    rcases u (8 + 6 * k) with ⟨e, w⟩ | ⟨e, w⟩
    · have := (ha k (by omega) (Or.inl e.symm)).2; omega
    · rcases u (9 + 6 * k) with ⟨e', w'⟩ | ⟨e', w'⟩
      · have := (ha k (by omega) (Or.inr e'.symm)).2; omega
      · rcases u (10 + 6 * k) with ⟨e'', w''⟩ | ⟨e'', w''⟩
        · have := (hm k (by omega) e''.symm).2; omega
        · rcases u 1 with ⟨e1, w1⟩ | ⟨e1, w1⟩
          · have := (h1 e1.symm).2; omega
          · rw [w, w', w'', w1]; exact q
  · intro j hj'
    have q := h.jo' j hj'
    refine ⟨?_, ?_⟩
    · rcases u (176 + 3 * j) with ⟨e, w⟩ | ⟨e, w⟩ <;> rw [w]
      · exact hj j hj' (Or.inl e.symm)
      · exact q.1
    · rcases u (177 + 3 * j) with ⟨e, w⟩ | ⟨e, w⟩ <;> rw [w]
      · exact hj j hj' (Or.inr e.symm)
      · exact q.2
  · intro s hs'
    have q := h.st' s hs'
    rcases u (206 + 7 * s) with ⟨e, w⟩ | ⟨e, w⟩ <;> rw [w]
    · exact hs s hs' e.symm
    · exact q
  · intro s x hs' x1 x2
    have q := h.me' s x hs' x1 x2
    rcases u (206 + 7 * s + x) with ⟨e, w⟩ | ⟨e, w⟩ <;> rw [w]
    · exact he s x hs' x1 x2 e.symm
    · exact q
theorem okW.inc {F : Nat → Int} (h : okW F) {i : Nat} {v k : Int} (hi : i = 2) (hk : k = F (2 : Int).toNat) (hv : v = k + 1) (hk2 : k ≤ 27) (h1 : 1 ≤ F (8 + 6 * k + 2 : Int).toNat) (h2 : F (8 + 6 * k : Int).toNat < F (1 : Int).toNat) (h3 : F (8 + 6 * k + 1 : Int).toNat < F (1 : Int).toNat) : okW (uZ F i v) := by
  subst hi
  have hk : k = F 2 := hk
  have c2 := h.c2'
  have e : ∀ j, j ≠ 2 → uZ F 2 v j = F j := fun j q => uZ_ne q
  have e2 : uZ F 2 v 2 = v := uZ_eq rfl
  refine ⟨?_, ?_, ?_, ?_, ?_, ?_, ?_, ?_, ?_, ?_, ?_, ?_⟩
  · rw [e _ (by omega)]; exact h.c1'
  · rw [e2]; omega
  · rw [e _ (by omega)]; exact h.c3'
  · rw [e _ (by omega)]; exact h.c4'
  · rw [e _ (by omega)]; exact h.c5'
  · rw [e _ (by omega)]; exact h.c6'
  · rw [e _ (by omega)]; exact h.c7'
  · intro k hk; rw [e _ (by omega), e _ (by omega), e _ (by omega)]; exact h.al' k hk
  · intro q hq
    rw [e2] at hq
    rw [e _ (by omega), e _ (by omega), e _ (by omega), e _ (by omega)]
    by_cases g : (q : Int) < F 2
    · exact h.mn' q g
    · have g : (q : Int) = k := by omega
      rw [show (8 + 6 * k + 2).toNat = 10 + 6 * q by omega] at h1
      rw [show (8 + 6 * k).toNat = 8 + 6 * q by omega] at h2
      rw [show (8 + 6 * k + 1).toNat = 9 + 6 * q by omega] at h3
      exact ⟨h1, h2, h3⟩
  · intro j hj; rw [e _ (by omega), e _ (by omega)]; exact h.jo' j hj
  · intro s hs; rw [e _ (by omega)]; exact h.st' s hs
  · intro s i hs h1 h2; rw [e _ (by omega)]; exact h.me' s i hs h1 h2
def plF : Nat → Int := uZ (uZ (fun _ => 0) 1 2) 4 (-1)
theorem plF_ok : okW plF := by
  have e : ∀ j, j ≠ 1 → j ≠ 4 → plF j = 0 := fun j h1 h4 => by unfold plF; rw [uZ_ne h4, uZ_ne h1]
  have e1 : plF 1 = 2 := rfl
  have e4 : plF 4 = -1 := rfl
  refine ⟨?_, ?_, ?_, ?_, ?_, ?_, ?_, ?_, ?_, ?_, ?_, ?_⟩
  · rw [e1]; omega
  · rw [e 2 (by omega) (by omega)]; omega
  · rw [e 3 (by omega) (by omega)]; omega
  · rw [e4]; omega
  · rw [e 5 (by omega) (by omega)]; omega
  · rw [e 6 (by omega) (by omega)]; omega
  · rw [e 7 (by omega) (by omega)]; omega
  · intro k hk; rw [e _ (by omega) (by omega), e _ (by omega) (by omega), e _ (by omega) (by omega)]; omega
  · intro k hk; rw [e 2 (by omega) (by omega)] at hk; omega
  · intro j hj; rw [e _ (by omega) (by omega), e _ (by omega) (by omega)]; omega
  · intro s hs; rw [e _ (by omega) (by omega)]; omega
  · intro s i hs h1 h2; rw [e _ (by omega) (by omega)]; omega
def zF (F : Nat → Int) (i : Int) : Prop := ∀ j : Int, 0 ≤ j → j < i → F j.toNat = 0
theorem zF_0 {F : Nat → Int} : zF F 0 := fun j h0 h1 => by omega
theorem zF_s {F : Nat → Int} {i : Int} (h : zF F i) (h0 : 0 ≤ i) : zF (uZ F i.toNat 0) (i + 1) := by
  intro j j0 j1
  by_cases e : j = i
  · subst e; rw [uZ_eq rfl]
  · rw [uZ_ne (by omega)]; exact h j j0 (by omega)
theorem zF_ok {F : Nat → Int} {i : Int} (h : zF F i) (hi : 304 ≤ i) : okW (uZ (uZ F (1 : Int).toNat 2) (4 : Int).toNat (-1)) := by
  refine plF_ok.eqv (fun j hj => ?_)
  have e := h (j : Int) (by omega) (by omega)
  rw [show ((j : Int)).toNat = j by omega] at e
  show (if j = 4 then -1 else if j = 1 then 2 else F j) = if j = 4 then -1 else if j = 1 then 2 else 0
  rw [e]
theorem zF_02 {F : Nat → Int} {i : Int} (h : zF F i) (hi : 304 ≤ i) : uZ (uZ F (1 : Int).toNat 2) (4 : Int).toNat (-1) (0 : Int).toNat = 0 ∧ uZ (uZ F (1 : Int).toNat 2) (4 : Int).toNat (-1) (2 : Int).toNat = 0 := by
  constructor
  · rw [uZ_ne (by decide), uZ_ne (by decide)]; exact h 0 (by omega) (by omega)
  · rw [uZ_ne (by decide), uZ_ne (by decide)]; exact h 2 (by omega) (by omega)
/-- where a text stands, as long as it is good -/
def rX (F : Nat → Int) (fk fr : Int) : Prop := fk = 0 → okW F ∧ (0 ≤ F (0 : Int).toNat ∧ F (0 : Int).toNat ≤ fr) ∧ F (2 : Int).toNat ≤ 28 * F (0 : Int).toNat
theorem rX_0 {F : Nat → Int} {fk fr : Int} (h : okW F) (e : F (0 : Int).toNat = 0 ∧ F (2 : Int).toNat = 0) (h0 : 0 ≤ fr) : rX F fk fr := fun _ => ⟨h, by omega, by omega⟩
theorem rX_d {F : Nat → Int} {fk fr : Int} (h : rX F fk fr) (e : fk = 0) : okW F ∧ (0 ≤ F (0 : Int).toNat ∧ F (0 : Int).toNat ≤ fr) ∧ F (2 : Int).toNat ≤ 28 * F (0 : Int).toNat := h e
theorem rX_b {F : Nat → Int} {fk fr : Int} (e : ¬ fk = 0) : rX F fk fr := fun q => absurd q e
theorem rX_s {F : Nat → Int} {fk fr : Int} (h : okW F) (h0 : 1 ≤ F (0 : Int).toNat ∧ F (0 : Int).toNat ≤ fr) : rX F fk fr := fun _ => ⟨h, by omega, by have := h.c2'; have : F (2 : Int).toNat = F 2 := rfl; omega⟩
theorem rX_m {F : Nat → Int} {fk fk1 fr fr1 : Int} (h : rX F fk fr) (h1 : fk ≤ 3 * fk1 ∧ 0 ≤ fk) (h2 : fr ≤ fr1) : rX F fk1 fr1 := fun q => ⟨(h (by omega)).1, by have := (h (by omega)).2.1; omega, (h (by omega)).2.2⟩
def cpF (F W : Nat → Int) (i : Int) : Prop := ∀ j : Int, 0 ≤ j → j < i → W j.toNat = F j.toNat
theorem cpF_0 {F W : Nat → Int} : cpF F W 0 := fun j h0 h1 => by omega
theorem cpF_s {F W : Nat → Int} {i : Int} (h : cpF F W i) (h0 : 0 ≤ i) : cpF F (uZ W i.toNat (F i.toNat)) (i + 1) := by
  intro j j0 j1
  by_cases e : j = i
  · subst e; rw [uZ_eq rfl]
  · rw [uZ_ne (by omega)]; exact h j j0 (by omega)
theorem cpF_ok {F W : Nat → Int} {i : Int} (hW : okW F) (h : cpF F W i) (hi : 304 ≤ i) : okW W := by
  refine hW.eqv (fun j hj => ?_)
  have := h (j : Int) (by omega) (by omega)
  rw [show ((j : Int)).toNat = j by omega] at this
  exact this
