/-! the reference's rows: what stands at which place; the shortest ways between all corners -/
def okW (F : Nat → Int) : Prop :=
  (2 ≤ F 1 ∧ F 1 ≤ 16) ∧
  (0 ≤ F 2 ∧ F 2 ≤ 28) ∧
  (0 ≤ F 3 ∧ F 3 ≤ 10) ∧
  (-1 ≤ F 4 ∧ F 4 ≤ 15) ∧
  (0 ≤ F 5 ∧ F 5 ≤ 6) ∧
  (0 ≤ F 6 ∧ F 6 ≤ 4) ∧
  (0 ≤ F 7 ∧ F 7 ≤ 4) ∧
  (∀ k : Nat, k < 28 → (0 ≤ F (8 + 6 * k) ∧ F (8 + 6 * k) ≤ 15) ∧ (0 ≤ F (9 + 6 * k) ∧ F (9 + 6 * k) ≤ 15) ∧ (0 ≤ F (10 + 6 * k) ∧ F (10 + 6 * k) ≤ 60)) ∧
  (∀ k : Nat, (k : Int) < F 2 → 1 ≤ F (10 + 6 * k) ∧ F (8 + 6 * k) < F 1 ∧ F (9 + 6 * k) < F 1) ∧
  (∀ j : Nat, j < 10 → (0 ≤ F (176 + 3 * j) ∧ F (176 + 3 * j) ≤ 15) ∧ (0 ≤ F (177 + 3 * j) ∧ F (177 + 3 * j) ≤ 15)) ∧
  (∀ s : Nat, s < 6 → 0 ≤ F (206 + 7 * s) ∧ F (206 + 7 * s) ≤ 6) ∧
  (∀ s i : Nat, s < 6 → 1 ≤ i → i ≤ 6 → 0 ≤ F (206 + 7 * s + i) ∧ F (206 + 7 * s + i) ≤ 27)
theorem okW.c1' {F : Nat → Int} (h : okW F) : 2 ≤ F 1 ∧ F 1 ≤ 16 := h.1
theorem okW.c2' {F : Nat → Int} (h : okW F) : 0 ≤ F 2 ∧ F 2 ≤ 28 := h.2.1
theorem okW.c3' {F : Nat → Int} (h : okW F) : 0 ≤ F 3 ∧ F 3 ≤ 10 := h.2.2.1
theorem okW.c4' {F : Nat → Int} (h : okW F) : -1 ≤ F 4 ∧ F 4 ≤ 15 := h.2.2.2.1
theorem okW.c5' {F : Nat → Int} (h : okW F) : 0 ≤ F 5 ∧ F 5 ≤ 6 := h.2.2.2.2.1
theorem okW.c6' {F : Nat → Int} (h : okW F) : 0 ≤ F 6 ∧ F 6 ≤ 4 := h.2.2.2.2.2.1
theorem okW.c7' {F : Nat → Int} (h : okW F) : 0 ≤ F 7 ∧ F 7 ≤ 4 := h.2.2.2.2.2.2.1
theorem okW.al' {F : Nat → Int} (h : okW F) : ∀ k : Nat, k < 28 → (0 ≤ F (8 + 6 * k) ∧ F (8 + 6 * k) ≤ 15) ∧ (0 ≤ F (9 + 6 * k) ∧ F (9 + 6 * k) ≤ 15) ∧ (0 ≤ F (10 + 6 * k) ∧ F (10 + 6 * k) ≤ 60) := h.2.2.2.2.2.2.2.1
theorem okW.mn' {F : Nat → Int} (h : okW F) : ∀ k : Nat, (k : Int) < F 2 → 1 ≤ F (10 + 6 * k) ∧ F (8 + 6 * k) < F 1 ∧ F (9 + 6 * k) < F 1 := h.2.2.2.2.2.2.2.2.1
theorem okW.jo' {F : Nat → Int} (h : okW F) : ∀ j : Nat, j < 10 → (0 ≤ F (176 + 3 * j) ∧ F (176 + 3 * j) ≤ 15) ∧ (0 ≤ F (177 + 3 * j) ∧ F (177 + 3 * j) ≤ 15) := h.2.2.2.2.2.2.2.2.2.1
theorem okW.st' {F : Nat → Int} (h : okW F) : ∀ s : Nat, s < 6 → 0 ≤ F (206 + 7 * s) ∧ F (206 + 7 * s) ≤ 6 := h.2.2.2.2.2.2.2.2.2.2.1
theorem okW.me' {F : Nat → Int} (h : okW F) : ∀ s i : Nat, s < 6 → 1 ≤ i → i ≤ 6 → 0 ≤ F (206 + 7 * s + i) ∧ F (206 + 7 * s + i) ≤ 27 := h.2.2.2.2.2.2.2.2.2.2.2
section OKW
variable {F : Nat → Int} {z k : Int}
theorem okW.c1 (h : okW F) (e : z = 1) : 2 ≤ F z.toNat ∧ F z.toNat ≤ 16 := by subst e; exact h.c1'
theorem okW.c2 (h : okW F) (e : z = 2) : 0 ≤ F z.toNat ∧ F z.toNat ≤ 28 := by subst e; exact h.c2'
theorem okW.c3 (h : okW F) (e : z = 3) : 0 ≤ F z.toNat ∧ F z.toNat ≤ 10 := by subst e; exact h.c3'
theorem okW.c4 (h : okW F) (e : z = 4) : -1 ≤ F z.toNat ∧ F z.toNat ≤ 15 := by subst e; exact h.c4'
theorem okW.c5 (h : okW F) (e : z = 5) : 0 ≤ F z.toNat ∧ F z.toNat ≤ 6 := by subst e; exact h.c5'
theorem okW.c6 (h : okW F) (e : z = 6) : 0 ≤ F z.toNat ∧ F z.toNat ≤ 4 := by subst e; exact h.c6'
theorem okW.c7 (h : okW F) (e : z = 7) : 0 ≤ F z.toNat ∧ F z.toNat ≤ 4 := by subst e; exact h.c7'
theorem okW.al (h : okW F) (e : z = 8 + 6 * k ∨ z = 9 + 6 * k) (h0 : 0 ≤ k) (h1 : k ≤ 27) : 0 ≤ F z.toNat ∧ F z.toNat ≤ 15 := by
  have q := h.al' k.toNat (by omega)
  rcases e with e | e
  · rw [show z.toNat = 8 + 6 * k.toNat by omega]; exact q.1
  · rw [show z.toNat = 9 + 6 * k.toNat by omega]; exact q.2.1
theorem okW.mi (h : okW F) (e : z = 10 + 6 * k) (h0 : 0 ≤ k) (h1 : k ≤ 27) : 0 ≤ F z.toNat ∧ F z.toNat ≤ 60 := by
  rw [show z.toNat = 10 + 6 * k.toNat by omega]; exact (h.al' k.toNat (by omega)).2.2
theorem okW.mn (h : okW F) (h0 : 0 ≤ k) (h1 : k < F (2 : Int).toNat) : 1 ≤ F (8 + 6 * k + 2 : Int).toNat ∧ F (8 + 6 * k + 0 : Int).toNat < F (1 : Int).toNat ∧ F (8 + 6 * k + 1 : Int).toNat < F (1 : Int).toNat ∧ 0 ≤ F (8 + 6 * k + 0 : Int).toNat ∧ 0 ≤ F (8 + 6 * k + 1 : Int).toNat ∧ F (1 : Int).toNat ≤ 16 ∧ k ≤ 27 := by
  have h1 : k < F 2 := h1
  have c2 := h.c2'
  have q := h.mn' k.toNat (by omega)
  have q2 := h.al' k.toNat (by omega)
  rw [show (8 + 6 * k + 2).toNat = 10 + 6 * k.toNat by omega, show (8 + 6 * k + 0).toNat = 8 + 6 * k.toNat by omega, show (8 + 6 * k + 1).toNat = 9 + 6 * k.toNat by omega]
  exact ⟨q.1, q.2.1, q.2.2, q2.1.1, q2.2.1.1, h.c1'.2, by omega⟩
theorem okW.jo (h : okW F) (e : z = 176 + 3 * k ∨ z = 177 + 3 * k) (h0 : 0 ≤ k) (h1 : k ≤ 9) : 0 ≤ F z.toNat ∧ F z.toNat ≤ 15 := by
  have q := h.jo' k.toNat (by omega)
  rcases e with e | e
  · rw [show z.toNat = 176 + 3 * k.toNat by omega]; exact q.1
  · rw [show z.toNat = 177 + 3 * k.toNat by omega]; exact q.2
theorem okW.st (h : okW F) (e : z = 206 + 7 * k) (h0 : 0 ≤ k) (h1 : k ≤ 5) : 0 ≤ F z.toNat ∧ F z.toNat ≤ 6 := by
  rw [show z.toNat = 206 + 7 * k.toNat by omega]; exact h.st' k.toNat (by omega)
theorem okW.me (h : okW F) (e : 206 + 7 * k + 1 ≤ z ∧ z ≤ 206 + 7 * k + 6) (h0 : 0 ≤ k) (h1 : k ≤ 5) : 0 ≤ F z.toNat ∧ F z.toNat ≤ 27 := by
  rw [show z.toNat = 206 + 7 * k.toNat + (z.toNat - (206 + 7 * k.toNat)) by omega]; exact h.me' k.toNat _ (by omega) (by omega) (by omega)
theorem uZ_ne {k i : Nat} {v : Int} (h : i ≠ k) : uZ F k v i = F i := if_neg h
theorem uZ_eq {k i : Nat} {v : Int} (h : i = k) : uZ F k v i = v := if_pos h
theorem okW.eqv {G : Nat → Int} (h : okW F) (e : ∀ i, i < 248 → G i = F i) : okW G := by
  refine ⟨?_, ?_, ?_, ?_, ?_, ?_, ?_, ?_, ?_, ?_, ?_, ?_⟩
  · rw [e _ (by omega)]; exact h.c1'
  · rw [e _ (by omega)]; exact h.c2'
  · rw [e _ (by omega)]; exact h.c3'
  · rw [e _ (by omega)]; exact h.c4'
  · rw [e _ (by omega)]; exact h.c5'
  · rw [e _ (by omega)]; exact h.c6'
  · rw [e _ (by omega)]; exact h.c7'
  · intro k hk; rw [e _ (by omega), e _ (by omega), e _ (by omega)]; exact h.al' k hk
  · intro k hk
    have c2 := h.c2'
    rw [e 2 (by omega)] at hk
    rw [e _ (by omega), e _ (by omega), e _ (by omega), e _ (by omega)]; exact h.mn' k hk
  · intro j hj; rw [e _ (by omega), e _ (by omega)]; exact h.jo' j hj
  · intro s hs; rw [e _ (by omega)]; exact h.st' s hs
  · intro s i hs h1 h2; rw [e _ (by omega)]; exact h.me' s i hs h1 h2
theorem okW.up (h : okW F) {v : Int} (hz : 248 ≤ z) (_ : rI v) : okW (uZ F z.toNat v) := h.eqv (fun i hi => uZ_ne (by omega))
end OKW
/-- the other end of an alley, from a corner; -1 if it may not be entered there -/
def endsF (W N : Nat → Int) (k c : Int) : Int := if W (8 + 6 * k + 0 : Int).toNat = c ∧ ¬ N k.toNat = 2 then W (8 + 6 * k + 1 : Int).toNat else if W (8 + 6 * k + 1 : Int).toNat = c ∧ ¬ N k.toNat = 1 then W (8 + 6 * k + 0 : Int).toNat else -1
def nearF (D : Nat → Int) (i : Nat) (v : Int) : Nat → Int := if v < D i then uZ D i v else D
theorem endsF_in {W N : Nat → Int} (h : okW W) {k c : Int} (h0 : 0 ≤ k) (h1 : k < W (2 : Int).toNat) (hne : endsF W N k c ≠ -1) : 0 ≤ endsF W N k c ∧ endsF W N k c < W (1 : Int).toNat ∧ W (1 : Int).toNat ≤ 16 := by
  have q := h.mn h0 h1
  unfold endsF at hne ⊢
  split
  · omega
  · rename_i h2
    rw [if_neg h2] at hne
    split
    · omega
    · rename_i h3; rw [if_neg h3] at hne; exact absurd rfl hne
/-- alley k leads on from a to b by a shortest way -/
def hT (W N D : Nat → Int) (a b k : Int) : Prop := endsF W N k a ≠ -1 ∧ W (8 + 6 * k + 2 : Int).toNat + D (16 * endsF W N k a + b : Int).toNat = D (16 * a + b : Int).toNat
def nT (W N D : Nat → Int) (a b k : Int) : Prop := ∀ j : Int, 0 ≤ j → j < k → ¬ hT W N D a b j
/-- what firstTo answers -/
def fT (W N D : Nat → Int) (a b y : Int) : Prop := (y = -1 ∧ (a = b ∨ 1000000 ≤ D (16 * a + b : Int).toNat ∨ nT W N D a b (W (2 : Int).toNat))) ∨ ((0 ≤ y ∧ y < W (2 : Int).toNat) ∧ ¬ a = b ∧ D (16 * a + b : Int).toNat < 1000000 ∧ hT W N D a b y)
theorem hT_of {W N D : Nat → Int} {a b k y : Int} (e : y = endsF W N k a) (h1 : ¬ y = -1) (h2 : W (8 + 6 * k + 2 : Int).toNat + D (16 * y + b : Int).toNat = D (16 * a + b : Int).toNat) : hT W N D a b k := by subst e; exact ⟨h1, h2⟩
theorem nT_0 {W N D : Nat → Int} {a b : Int} : nT W N D a b 0 := fun j h0 h1 => by omega
theorem nT_s {W N D : Nat → Int} {a b k y : Int} (h : nT W N D a b k) (e : y = endsF W N k a) (h1 : y = -1 ∨ ¬ W (8 + 6 * k + 2 : Int).toNat + D (16 * y + b : Int).toNat = D (16 * a + b : Int).toNat) : nT W N D a b (k + 1) := by
  intro j h0 h2 h3
  by_cases hj : j = k
  · subst hj; subst e; rcases h1 with h1 | h1
    · exact h3.1 h1
    · exact h1 h3.2
  · exact h j h0 (by omega) h3
theorem nT_le {W N D : Nat → Int} {a b k k' : Int} (h : nT W N D a b k) (hk : k' ≤ k) : nT W N D a b k' := fun j h0 h1 => h j h0 (by omega)
/-- one step on a shortest way is nearer -/
theorem fT_dec {W N D : Nat → Int} {a b y t : Int} (hW : okW W) (h : fT W N D a b y) (hy : ¬ y = -1) (e : t = endsF W N y a) : (0 ≤ y ∧ y < W (2 : Int).toNat) ∧ (0 ≤ t ∧ t < W (1 : Int).toNat ∧ W (1 : Int).toNat ≤ 16) ∧ W (8 + 6 * y + 2 : Int).toNat + D (16 * t + b : Int).toNat = D (16 * a + b : Int).toNat ∧ 1 ≤ W (8 + 6 * y + 2 : Int).toNat ∧ D (16 * a + b : Int).toNat < 1000000 := by
  rcases h with ⟨h, _⟩ | ⟨h1, h2, h3, h4, h5⟩
  · exact absurd h hy
  · subst e
    exact ⟨h1, endsF_in hW h1.1 h1.2 h4, h5, (hW.mn h1.1 h1.2).1, h3⟩
/-- where corners are told by alleys: from every corner that has a way on, an alley leads on -/
def okE (W N D : Nat → Int) : Prop := ∀ a b : Int, 0 ≤ a → a < W (1 : Int).toNat → 0 ≤ b → b < W (1 : Int).toNat → ¬ a = b → D (16 * a + b : Int).toNat < 1000000 → ∃ k : Int, 0 ≤ k ∧ k < W (2 : Int).toNat ∧ hT W N D a b k
theorem okE_f {W N D : Nat → Int} {a b y : Int} (hE : okE W N D) (hy : fT W N D a b y) (h0 : 0 ≤ a) (h1 : a < W (1 : Int).toNat) (h2 : 0 ≤ b) (h3 : b < W (1 : Int).toNat) (h4 : ¬ a = b) (h5 : D (16 * a + b : Int).toNat < 1000000) : ¬ y = -1 := by
  intro e
  rcases hy with ⟨_, h | h | h⟩ | ⟨h, _⟩
  · exact h4 h
  · omega
  · obtain ⟨k, q0, q1, q2⟩ := hE a b h0 h1 h2 h3 h4 h5
    exact h k q0 q1 q2
  · omega
/-! Floyd's and Warshall's way -/
def inC (n x : Int) : Prop := 0 ≤ x ∧ x < n
theorem ix {n a b x y : Int} (hn : n ≤ 16) (ha : 0 ≤ a) (hb : 0 ≤ b) (hb2 : b < n) (hx : 0 ≤ x) (hy : 0 ≤ y) (hy2 : y < n) (h : (16 * x + y).toNat = (16 * a + b).toNat) : x = a ∧ y = b := by omega
def iD (D : Nat → Int) (n a b : Int) : Prop := ∀ x y : Int, 0 ≤ x → 0 ≤ y → y < n → (x < a ∨ (x = a ∧ y < b)) → D (16 * x + y : Int).toNat = if x = y then 0 else 1000000
theorem iD_0 {D : Nat → Int} {n : Int} : iD D n 0 0 := fun x y h0 h1 _ h => by omega
theorem iD_s {D : Nat → Int} {n a b v : Int} (h : iD D n a b) (hn : n ≤ 16) (ha : 0 ≤ a) (hb : 0 ≤ b) (hb2 : b < n) (hv : v = if a = b then 0 else 1000000) : iD (uZ D (16 * a + b : Int).toNat v) n a (b + 1) := by
  intro x y h0 h1 h2 h3
  by_cases e : (16 * x + y).toNat = (16 * a + b).toNat
  · obtain ⟨e1, e2⟩ := ix hn ha hb hb2 h0 h1 h2 e
    subst e1; subst e2
    rw [uZ_eq rfl, hv]
  · rw [uZ_ne e]
    refine h x y h0 h1 h2 ?_
    rcases h3 with h3 | ⟨h3, h4⟩
    · exact Or.inl h3
    · by_cases hy : y = b
      · exact absurd (by rw [h3, hy]) e
      · exact Or.inr ⟨h3, by omega⟩
theorem iD_r {D : Nat → Int} {n a b : Int} (h : iD D n a b) (hb : n ≤ b) : iD D n (a + 1) 0 := by
  intro x y h0 h1 h2 h3
  exact h x y h0 h1 h2 (by omega)
/-- alleys up to k are told -/
def mD (W N D : Nat → Int) (n k : Int) : Prop := (∀ a : Int, 0 ≤ a → a < n → D (16 * a + a : Int).toNat = 0) ∧ (∀ j a t : Int, 0 ≤ j → j < k → 0 ≤ a → a < n → endsF W N j a = t → t ≠ -1 → D (16 * a + t : Int).toNat ≤ W (8 + 6 * j + 2 : Int).toNat) ∧ ∀ a b : Int, 0 ≤ a → a < n → 0 ≤ b → b < n → ¬ a = b → D (16 * a + b : Int).toNat < 1000000 → ∃ j : Int, 0 ≤ j ∧ j < k ∧ endsF W N j a = b ∧ W (8 + 6 * j + 2 : Int).toNat ≤ D (16 * a + b : Int).toNat
theorem mD_0 {W N D : Nat → Int} {n a : Int} (h : iD D n a 0) (ha : n ≤ a) : mD W N D n 0 := by
  refine ⟨fun x h0 h1 => ?_, fun j x t h0 h1 => by omega, fun x y h0 h1 h2 h3 h4 h5 => ?_⟩
  · rw [h x x h0 h0 h1 (by omega), if_pos rfl]
  · rw [h x y h0 h2 h3 (by omega), if_neg h4] at h5
    omega
theorem nearF_le (D : Nat → Int) (i : Nat) (v : Int) (j : Nat) : nearF D i v j ≤ D j := by
  unfold nearF
  split
  · by_cases e : j = i
    · subst e; rw [uZ_eq rfl]; omega
    · rw [uZ_ne e]; omega
  · omega
theorem nearF_at (D : Nat → Int) (i : Nat) (v : Int) : nearF D i v i ≤ v := by
  unfold nearF
  split
  · rw [uZ_eq rfl]; omega
  · omega
theorem nearF_or (D : Nat → Int) (i : Nat) (v : Int) (j : Nat) : nearF D i v j = D j ∨ (j = i ∧ nearF D i v j = v) := by
  unfold nearF
  split
  · by_cases e : j = i
    · subst e; exact Or.inr ⟨rfl, uZ_eq rfl⟩
    · exact Or.inl (uZ_ne e)
  · exact Or.inl rfl
/-- one edge of alley k told -/
theorem mD_e {W N D : Nat → Int} {n k a0 b0 : Int} (hn : n ≤ 16) (hw : 1 ≤ W (8 + 6 * k + 2 : Int).toNat) (hk : 0 ≤ k) (ha : 0 ≤ a0) (hb : 0 ≤ b0) (hb2 : b0 < n) (he : ¬ a0 = b0 → endsF W N k a0 = b0)
    (h1 : ∀ a : Int, 0 ≤ a → a < n → D (16 * a + a : Int).toNat = 0) (h3 : ∀ a b : Int, 0 ≤ a → a < n → 0 ≤ b → b < n → ¬ a = b → D (16 * a + b : Int).toNat < 1000000 → ∃ j : Int, 0 ≤ j ∧ j < k + 1 ∧ endsF W N j a = b ∧ W (8 + 6 * j + 2 : Int).toNat ≤ D (16 * a + b : Int).toNat) :
    (∀ a : Int, 0 ≤ a → a < n → nearF D (16 * a0 + b0 : Int).toNat (W (8 + 6 * k + 2 : Int).toNat) (16 * a + a : Int).toNat = 0) ∧ ∀ a b : Int, 0 ≤ a → a < n → 0 ≤ b → b < n → ¬ a = b → nearF D (16 * a0 + b0 : Int).toNat (W (8 + 6 * k + 2 : Int).toNat) (16 * a + b : Int).toNat < 1000000 → ∃ j : Int, 0 ≤ j ∧ j < k + 1 ∧ endsF W N j a = b ∧ W (8 + 6 * j + 2 : Int).toNat ≤ nearF D (16 * a0 + b0 : Int).toNat (W (8 + 6 * k + 2 : Int).toNat) (16 * a + b : Int).toNat := by
  refine ⟨fun a q0 q1 => ?_, fun a b q0 q1 q2 q3 q4 q5 => ?_⟩
  · by_cases e : (16 * a + a).toNat = (16 * a0 + b0).toNat
    · obtain ⟨e1, e2⟩ := ix hn ha hb hb2 q0 q0 q1 e
      unfold nearF
      rw [← e, h1 a q0 q1, if_neg (by omega)]
      exact h1 a q0 q1
    · rcases nearF_or D (16 * a0 + b0 : Int).toNat (W (8 + 6 * k + 2 : Int).toNat) (16 * a + a : Int).toNat with h | h
      · rw [h]; exact h1 a q0 q1
      · exact absurd h.1 e
  · rcases nearF_or D (16 * a0 + b0 : Int).toNat (W (8 + 6 * k + 2 : Int).toNat) (16 * a + b : Int).toNat with h | h
    · rw [h] at q5 ⊢; exact h3 a b q0 q1 q2 q3 q4 q5
    · obtain ⟨e1, e2⟩ := ix hn ha hb hb2 q0 q2 q3 h.1
      subst e1; subst e2
      exact ⟨k, hk, by omega, he q4, by rw [h.2]; omega⟩
theorem mD_s {W N D D1 D2 : Nat → Int} {n k : Int} (hm : mD W N D n k) (hW : okW W) (hn : n = W (1 : Int).toNat) (hk : 0 ≤ k) (hk2 : k < W (2 : Int).toNat)
    (h2 : (¬ N k.toNat = 1 ∧ D2 = nearF D1 (16 * W (8 + 6 * k + 1 : Int).toNat + W (8 + 6 * k + 0 : Int).toNat : Int).toNat (W (8 + 6 * k + 2 : Int).toNat)) ∨ (N k.toNat = 1 ∧ D2 = D1))
    (h1 : (¬ N k.toNat = 2 ∧ D1 = nearF D (16 * W (8 + 6 * k + 0 : Int).toNat + W (8 + 6 * k + 1 : Int).toNat : Int).toNat (W (8 + 6 * k + 2 : Int).toNat)) ∨ (N k.toNat = 2 ∧ D1 = D)) : mD W N D2 n (k + 1) := by
  have q := hW.mn hk hk2
  obtain ⟨z0, e0, p0⟩ := hm
  have p0' : ∀ a b : Int, 0 ≤ a → a < n → 0 ≤ b → b < n → ¬ a = b → D (16 * a + b : Int).toNat < 1000000 → ∃ j : Int, 0 ≤ j ∧ j < k + 1 ∧ endsF W N j a = b ∧ W (8 + 6 * j + 2 : Int).toNat ≤ D (16 * a + b : Int).toNat := by
    intro a b q0 q1 q2 q3 q4 q5
    obtain ⟨j, j0, j1, j2⟩ := p0 a b q0 q1 q2 q3 q4 q5
    exact ⟨j, j0, by omega, j2⟩
  have A1 : (∀ a : Int, 0 ≤ a → a < n → D1 (16 * a + a : Int).toNat = 0) ∧ ∀ a b : Int, 0 ≤ a → a < n → 0 ≤ b → b < n → ¬ a = b → D1 (16 * a + b : Int).toNat < 1000000 → ∃ j : Int, 0 ≤ j ∧ j < k + 1 ∧ endsF W N j a = b ∧ W (8 + 6 * j + 2 : Int).toNat ≤ D1 (16 * a + b : Int).toNat := by
    rcases h1 with ⟨c, e⟩ | ⟨c, e⟩
    · rw [e]
      exact mD_e (by omega) q.1 hk (by omega) (by omega) (by omega) (fun _ => by unfold endsF; rw [if_pos ⟨rfl, c⟩]) z0 p0'
    · rw [e]; exact ⟨z0, p0'⟩
  have L1 : ∀ i, D1 i ≤ D i := by
    intro i
    rcases h1 with ⟨c, e⟩ | ⟨c, e⟩
    · rw [e]; exact nearF_le _ _ _ _
    · rw [e]; omega
  have L2 : ∀ i, D2 i ≤ D1 i := by
    intro i
    rcases h2 with ⟨c, e⟩ | ⟨c, e⟩
    · rw [e]; exact nearF_le _ _ _ _
    · rw [e]; omega
  have A2 : (∀ a : Int, 0 ≤ a → a < n → D2 (16 * a + a : Int).toNat = 0) ∧ ∀ a b : Int, 0 ≤ a → a < n → 0 ≤ b → b < n → ¬ a = b → D2 (16 * a + b : Int).toNat < 1000000 → ∃ j : Int, 0 ≤ j ∧ j < k + 1 ∧ endsF W N j a = b ∧ W (8 + 6 * j + 2 : Int).toNat ≤ D2 (16 * a + b : Int).toNat := by
    rcases h2 with ⟨c, e⟩ | ⟨c, e⟩
    · rw [e]
      exact mD_e (by omega) q.1 hk (by omega) (by omega) (by omega) (fun g => by unfold endsF; rw [if_neg (fun h => g h.1.symm), if_pos ⟨rfl, c⟩]) A1.1 A1.2
    · rw [e]; exact A1
  refine ⟨A2.1, fun j a t j0 j1 j2 j3 j4 j5 => ?_, A2.2⟩
  by_cases hj : j = k
  · subst hj
    unfold endsF at j4
    split at j4
    · rename_i g
      rcases h1 with ⟨c, e⟩ | ⟨c, e⟩
      · have := nearF_at D (16 * W (8 + 6 * j + 0 : Int).toNat + W (8 + 6 * j + 1 : Int).toNat : Int).toNat (W (8 + 6 * j + 2 : Int).toNat)
        rw [← e, g.1, j4] at this
        have := L2 (16 * a + t).toNat
        omega
      · exact absurd c g.2
    · split at j4
      · rename_i g
        rcases h2 with ⟨c, e⟩ | ⟨c, e⟩
        · have := nearF_at D1 (16 * W (8 + 6 * j + 1 : Int).toNat + W (8 + 6 * j + 0 : Int).toNat : Int).toNat (W (8 + 6 * j + 2 : Int).toNat)
          rw [← e, g.1, j4] at this
          exact this
        · exact absurd c g.2
      · exact absurd j4.symm j5
  · have := e0 j a t j0 (by omega) j2 j3 j4 j5
    have := L1 (16 * a + t).toNat
    have := L2 (16 * a + t).toNat
    omega
/-- ways over corners below c -/
def fD (W N D : Nat → Int) (n c : Int) : Prop := (∀ a : Int, 0 ≤ a → a < n → D (16 * a + a : Int).toNat = 0) ∧ (∀ j a t : Int, 0 ≤ j → j < W (2 : Int).toNat → 0 ≤ a → a < n → endsF W N j a = t → t ≠ -1 → D (16 * a + t : Int).toNat ≤ W (8 + 6 * j + 2 : Int).toNat) ∧ (∀ a b : Int, 0 ≤ a → a < n → 0 ≤ b → b < n → ¬ a = b → D (16 * a + b : Int).toNat < 1000000 → ∃ j : Int, 0 ≤ j ∧ j < W (2 : Int).toNat ∧ endsF W N j a ≠ -1 ∧ W (8 + 6 * j + 2 : Int).toNat + D (16 * endsF W N j a + b : Int).toNat ≤ D (16 * a + b : Int).toNat) ∧ ∀ x a b : Int, 0 ≤ x → x < c → 0 ≤ a → a < n → 0 ≤ b → b < n → D (16 * a + b : Int).toNat ≤ D (16 * a + x : Int).toNat + D (16 * x + b : Int).toNat
theorem fD_0 {W N D : Nat → Int} {n k : Int} (h : mD W N D n k) (hk : k = W (2 : Int).toNat) : fD W N D n 0 := by
  subst hk
  refine ⟨h.1, h.2.1, fun a b q0 q1 q2 q3 q4 q5 => ?_, fun x a b q0 q1 => by omega⟩
  obtain ⟨j, j0, j1, j2, j3⟩ := h.2.2 a b q0 q1 q2 q3 q4 q5
  refine ⟨j, j0, j1, by omega, ?_⟩
  rw [j2, h.1 b q2 q3]
  omega
def qD (D E : Nat → Int) (n c a b : Int) : Prop := ∀ x y : Int, 0 ≤ x → x < n → 0 ≤ y → y < n → E (16 * x + y : Int).toNat = if x < a ∨ (x = a ∧ y < b) then min (D (16 * x + y : Int).toNat) (D (16 * x + c : Int).toNat + D (16 * c + y : Int).toNat) else D (16 * x + y : Int).toNat
def gD (W N E : Nat → Int) (n c a b : Int) : Prop := ∃ D : Nat → Int, rng D 256 0 1000000 ∧ fD W N D n c ∧ qD D E n c a b
theorem gD_0 {W N D : Nat → Int} {n c : Int} (hr : rng D 256 0 1000000) (h : fD W N D n c) : gD W N D n c 0 0 := ⟨D, hr, h, fun x y q0 q1 q2 q3 => by rw [if_neg (by omega)]⟩
theorem gD_s {W N E E2 : Nat → Int} {n c a b : Int} (h : gD W N E n c a b) (hn : n ≤ 16) (hc : 0 ≤ c) (hc2 : c < n) (ha : 0 ≤ a) (ha2 : a < n) (hb : 0 ≤ b) (hb2 : b < n) (e : E2 = nearF E (16 * a + b : Int).toNat (E (16 * a + c : Int).toNat + E (16 * c + b : Int).toNat)) : gD W N E2 n c a (b + 1) := by
  obtain ⟨D, hr, hf, hq⟩ := h
  refine ⟨D, hr, hf, ?_⟩
  have zc := hf.1 c hc hc2
  have r1 := hr (16 * a + c).toNat (by omega)
  have r2 := hr (16 * c + b).toNat (by omega)
  have e1 : E (16 * a + c : Int).toNat = D (16 * a + c : Int).toNat := by
    rw [hq a c ha ha2 hc hc2]
    split
    · omega
    · rfl
  have e2 : E (16 * c + b : Int).toNat = D (16 * c + b : Int).toNat := by
    rw [hq c b hc hc2 hb hb2]
    split
    · omega
    · rfl
  have e3 : E (16 * a + b : Int).toNat = D (16 * a + b : Int).toNat := by
    rw [hq a b ha ha2 hb hb2, if_neg (by omega)]
  rw [e1, e2] at e
  intro x y q0 q1 q2 q3
  by_cases ei : (16 * x + y).toNat = (16 * a + b).toNat
  · obtain ⟨g1, g2⟩ := ix hn ha hb hb2 q0 q2 q3 ei
    subst g1; subst g2
    rw [if_pos (by omega), e]
    unfold nearF
    split
    · rw [uZ_eq rfl]; omega
    · omega
  · have : E2 (16 * x + y : Int).toNat = E (16 * x + y : Int).toNat := by
      rw [e]
      rcases nearF_or E (16 * a + b : Int).toNat (D (16 * a + c : Int).toNat + D (16 * c + b : Int).toNat) (16 * x + y : Int).toNat with h | h
      · exact h
      · exact absurd h.1 ei
    rw [this, hq x y q0 q1 q2 q3]
    by_cases g : x < a ∨ (x = a ∧ y < b)
    · rw [if_pos g, if_pos (by omega)]
    · rw [if_neg g, if_neg (fun h => ?_)]
      rcases h with h | ⟨h, h'⟩
      · exact g (Or.inl h)
      · by_cases hy : y = b
        · exact ei (by rw [h, hy])
        · exact g (Or.inr ⟨h, by omega⟩)
theorem gD_r {W N E : Nat → Int} {n c a b : Int} (h : gD W N E n c a b) (hb : n ≤ b) : gD W N E n c (a + 1) 0 := by
  obtain ⟨D, hr, hf, hq⟩ := h
  refine ⟨D, hr, hf, fun x y q0 q1 q2 q3 => ?_⟩
  rw [hq x y q0 q1 q2 q3]
  by_cases g : x < a ∨ (x = a ∧ y < b)
  · rw [if_pos g, if_pos (by omega)]
  · rw [if_neg g, if_neg (by omega)]
theorem gD_c {W N E : Nat → Int} {n c a : Int} (hW : okW W) (hn : n = W (1 : Int).toNat) (h : gD W N E n c a 0) (hc : 0 ≤ c) (hc2 : c < n) (ha : n ≤ a) : fD W N E n (c + 1) := by
  have c1 := hW.c1 (z := 1) rfl
  obtain ⟨D, hr, ⟨hz, he, hp, ht⟩, hq⟩ := h
  have R : ∀ x y : Int, 0 ≤ x → x < n → 0 ≤ y → y < n → 0 ≤ D (16 * x + y : Int).toNat := fun x y q0 q1 q2 q3 => (hr (16 * x + y).toNat (by omega)).1
  have V : ∀ x y : Int, 0 ≤ x → x < n → 0 ≤ y → y < n → E (16 * x + y : Int).toNat = min (D (16 * x + y : Int).toNat) (D (16 * x + c : Int).toNat + D (16 * c + y : Int).toNat) := by
    intro x y q0 q1 q2 q3
    rw [hq x y q0 q1 q2 q3, if_pos (by omega)]
  have zc := hz c hc hc2
  refine ⟨fun x q0 q1 => ?_, fun j x t j0 j1 q0 q1 q2 q3 => ?_, fun x y q0 q1 q2 q3 q4 q5 => ?_, fun w x y w0 w1 q0 q1 q2 q3 => ?_⟩
  · rw [V x x q0 q1 q0 q1, hz x q0 q1]
    have := R x c q0 q1 hc hc2
    have := R c x hc hc2 q0 q1
    omega
  · have := he j x t j0 j1 q0 q1 q2 q3
    have i := endsF_in (N := N) (c := x) hW j0 j1 (by rw [q2]; exact q3)
    rw [q2] at i
    rw [V x t q0 q1 i.1 (by omega)]
    omega
  · rw [V x y q0 q1 q2 q3] at q5 ⊢
    have G : ∀ b : Int, 0 ≤ b → b < n → ¬ x = b → D (16 * x + b : Int).toNat < 1000000 → ∃ j : Int, 0 ≤ j ∧ j < W (2 : Int).toNat ∧ endsF W N j x ≠ -1 ∧ (0 ≤ endsF W N j x ∧ endsF W N j x < n) ∧ W (8 + 6 * j + 2 : Int).toNat + D (16 * endsF W N j x + b : Int).toNat ≤ D (16 * x + b : Int).toNat := by
      intro b b0 b1 b2 b3
      obtain ⟨j, j0, j1, j2, j3⟩ := hp x b q0 q1 b0 b1 b2 b3
      have i := endsF_in (N := N) (c := x) hW j0 j1 j2
      exact ⟨j, j0, j1, j2, ⟨i.1, by omega⟩, j3⟩
    by_cases g : D (16 * x + y : Int).toNat ≤ D (16 * x + c : Int).toNat + D (16 * c + y : Int).toNat
    · obtain ⟨j, j0, j1, j2, ⟨j3, j4⟩, j5⟩ := G y q2 q3 q4 (by omega)
      refine ⟨j, j0, j1, j2, ?_⟩
      rw [V _ y j3 j4 q2 q3]
      omega
    · by_cases xc : x = c
      · subst xc; omega
      · have := R c y hc hc2 q2 q3
        obtain ⟨j, j0, j1, j2, ⟨j3, j4⟩, j5⟩ := G c hc hc2 xc (by omega)
        refine ⟨j, j0, j1, j2, ?_⟩
        rw [V _ y j3 j4 q2 q3]
        omega
  · by_cases wc : w = c
    · subst wc
      rw [V x y q0 q1 q2 q3, V x w q0 q1 hc hc2, V w y hc hc2 q2 q3]
      omega
    · have w2 : w < c := by omega
      have w3 : w < n := by omega
      have t1 := ht w x y w0 w2 q0 q1 q2 q3
      have t2 := ht w c y w0 w2 hc hc2 q2 q3
      have t3 := ht w x c w0 w2 q0 q1 hc hc2
      have r1 := R c w hc hc2 w0 w3
      have r2 := R w c w0 w3 hc hc2
      rw [V x y q0 q1 q2 q3, V x w q0 q1 w0 w3, V w y w0 w3 q2 q3]
      omega
theorem okE_of {W N D : Nat → Int} {n c : Int} (hW : okW W) (hn : n = W (1 : Int).toNat) (h : fD W N D n c) (hc : n ≤ c) : okE W N D := by
  obtain ⟨hz, he, hp, ht⟩ := h
  intro a b q0 q1 q2 q3 q4 q5
  obtain ⟨j, j0, j1, j2, j3⟩ := hp a b q0 (by omega) q2 (by omega) q4 q5
  have i := endsF_in (N := N) (c := a) hW j0 j1 j2
  have e1 := he j a _ j0 j1 q0 (by omega) rfl j2
  have e2 := ht (endsF W N j a) a b i.1 (by omega) q0 (by omega) q2 (by omega)
  exact ⟨j, j0, j1, j2, by omega⟩
/-- how many corners are nearer -/
def lessN (D : Nat → Int) (b v : Int) : Nat → Nat
  | 0 => 0
  | x + 1 => lessN D b v x + (if D (16 * (x : Int) + b : Int).toNat < v then 1 else 0)
theorem lessN_le (D : Nat → Int) (b v : Int) : ∀ n : Nat, lessN D b v n ≤ n
  | 0 => Nat.le_refl _
  | n + 1 => by have := lessN_le D b v n; simp only [lessN]; split <;> omega
theorem lessN_mono (D : Nat → Int) (b : Int) {v w : Int} (h : v ≤ w) : ∀ n : Nat, lessN D b v n ≤ lessN D b w n
  | 0 => Nat.le_refl _
  | n + 1 => by
    have := lessN_mono D b h n
    simp only [lessN]
    split
    · rw [if_pos (by omega)]; omega
    · omega
theorem lessN_lt (D : Nat → Int) (b : Int) {t w : Int} (h0 : 0 ≤ t) (h : D (16 * t + b : Int).toNat < w) : ∀ n : Nat, t < n → lessN D b (D (16 * t + b : Int).toNat) n < lessN D b w n
  | 0, h2 => by omega
  | n + 1, h2 => by
    simp only [lessN]
    by_cases e : t = (n : Int)
    · have := lessN_mono D b (Int.le_of_lt h) n
      rw [← e, if_neg (by omega), if_pos h]; omega
    · have := lessN_lt D b h0 h n (by omega)
      split
      · rw [if_pos (by omega)]; omega
      · omega
/-- sums of rows -/
def sumN (F : Nat → Int) : Nat → Int
  | 0 => 0
  | n + 1 => sumN F n + F n
theorem sumN_up (F : Nat → Int) (k : Nat) (v : Int) : ∀ n : Nat, sumN (uZ F k v) n = sumN F n + (if k < n then v - F k else 0)
  | 0 => by simp [sumN]
  | n + 1 => by
    have ih := sumN_up F k v n
    simp only [sumN]
    by_cases e : n = k
    · subst e; rw [uZ_eq rfl, ih, if_neg (by omega), if_pos (by omega)]; omega
    · rw [uZ_ne e, ih]
      by_cases h : k < n
      · rw [if_pos h, if_pos (by omega)]; omega
      · rw [if_neg h, if_neg (by omega)]; omega
theorem sumN_rng {F : Nat → Int} {n : Nat} {lo hi : Int} (h : rng F n lo hi) : ∀ m : Nat, m ≤ n → lo * m ≤ sumN F m ∧ sumN F m ≤ hi * m
  | 0, _ => by simp [sumN]
  | m + 1, hm => by
    have ih := sumN_rng h m (by omega)
    have := h m (by omega)
    simp only [sumN]
    rw [show ((m + 1 : Nat) : Int) = (m : Int) + 1 by omega, Int.mul_add, Int.mul_add, Int.mul_one, Int.mul_one]
    omega
theorem sumN_16 {F : Nat → Int} {hi : Int} (h : rng F 16 0 hi) : 0 ≤ sumN F 16 := by
  have := (sumN_rng h 16 (by omega)).1
  omega
/-! images -/
def okI (G B : Nat → Int) : Prop := ∀ k : Nat, k < 3 → B k = 1 → okW (fun j => G (304 * k + j))
def cpO (G G1 F : Nat → Int) (k i : Int) : Prop := (∀ j : Int, 0 ≤ j → j < i → G1 (304 * k + j : Int).toNat = F j.toNat) ∧ ∀ x : Nat, (x : Int) < 304 * k ∨ 304 * k + 304 ≤ x → G1 x = G x
theorem cpO_0 {G F : Nat → Int} {k : Int} : cpO G G F k 0 := ⟨fun j h0 h1 => by omega, fun _ _ => rfl⟩
theorem cpO_s {G G1 F : Nat → Int} {k i : Int} (h : cpO G G1 F k i) (hk : 0 ≤ k) (h0 : 0 ≤ i) (h1 : i < 304) : cpO G (uZ G1 (304 * k + i : Int).toNat (F i.toNat)) F k (i + 1) := by
  refine ⟨fun j j0 j1 => ?_, fun x hx => ?_⟩
  · by_cases e : j = i
    · subst e; rw [uZ_eq rfl]
    · rw [uZ_ne (by omega)]; exact h.1 j j0 (by omega)
  · rw [uZ_ne (by omega)]; exact h.2 x hx
theorem okI_k {G G1 F B : Nat → Int} {k i : Int} (h : okI G B) (hW : okW F) (hc : cpO G G1 F k i) (hi : 304 ≤ i) (hk : 0 ≤ k) (hk2 : k ≤ 2) : okI G1 (uZ B k.toNat 1) := by
  intro q hq hb
  by_cases e : (q : Int) = k
  · refine hW.eqv (fun j hj => ?_)
    have := hc.1 (j : Int) (by omega) (by omega)
    rw [show (304 * k + (j : Int)).toNat = 304 * q + j by omega, show ((j : Int)).toNat = j by omega] at this
    exact this
  · rw [uZ_ne (by omega)] at hb
    refine (h q hq hb).eqv (fun j hj => ?_)
    exact hc.2 (304 * q + j) (by omega)
def cpB (G W : Nat → Int) (k i : Int) : Prop := ∀ j : Int, 0 ≤ j → j < i → W j.toNat = G (304 * k + j : Int).toNat
theorem cpB_0 {G W : Nat → Int} {k : Int} : cpB G W k 0 := fun j h0 h1 => by omega
theorem cpB_s {G W : Nat → Int} {k i : Int} (h : cpB G W k i) (h0 : 0 ≤ i) (_ : i < 304) : cpB G (uZ W i.toNat (G (304 * k + i : Int).toNat)) k (i + 1) := by
  intro j j0 j1
  by_cases e : j = i
  · subst e; rw [uZ_eq rfl]
  · rw [uZ_ne (by omega)]; exact h j j0 (by omega)
theorem okI_b {G B W : Nat → Int} {k i : Int} (h : okI G B) (hk : 0 ≤ k) (hk2 : k ≤ 2) (hb : B k.toNat = 1) (hc : cpB G W k i) (hi : 304 ≤ i) : okW W := by
  refine (h k.toNat (by omega) hb).eqv (fun j hj => ?_)
  have := hc (j : Int) (by omega) (by omega)
  rw [show (304 * k + (j : Int)).toNat = 304 * k.toNat + j by omega, show ((j : Int)).toNat = j by omega] at this
  exact this
theorem sumN_2 {F : Nat → Int} {a b : Nat} (h : rng F 16 0 1) (ha : a < 16) (hb : b < 16) (hne : ¬ F a = F b) : sumN (uZ (uZ F a 1) b 1) 16 = sumN F 16 + 1 := by
  have r1 := h a ha
  have r2 := h b hb
  have e : ¬ b = a := fun q => hne (by rw [q])
  rw [sumN_up, sumN_up, if_pos ha, if_pos hb, uZ_ne e]
  omega
def mA (x y v : Int) : Nat := x.toNat * 3000006 + (1 - y).toNat * 1000002 + v.toNat
theorem mA_dec {x y v x1 y1 v1 : Int} (h : (x1 < x ∧ 0 < x ∧ 0 ≤ y1) ∨ (x1 ≤ 0 ∧ y1 = 1 ∧ (y = 1 → v1 < v))) (hv1 : 0 ≤ v1 ∧ v1 ≤ 1000000) (hv : 0 ≤ v) (hy : y ≤ 1) : mA x1 y1 v1 < mA x y v := by
  unfold mA
  omega
/-! rows for the reference -/
def b255 (v : Int) : Int := (zI v &&& zI 255).toInt
section R49
variable {p : Program} {l : Launch} {e : Env} {R : Room} {s : State} {m : MethodId} {args : Array Value} {below : List Frame} {meth : Method} {c : Code} {H : Heap} {locs : List Loc} {cells slots : Nat} {Q : State → Prop}
variable {cc : ByteArray} {pc : Nat} {ls : Array Slot} {rest : List Value}
theorem ri_andb (hx : p.tables.exec = Jvm.exec) (hb : c.code = cc) {x c0 : Int} (hdg : decode cc pc = .ok (.iand, 1)) (h : 0 ≤ c0 ∧ c0 ≤ 65535) (_ : rI x) (k : ∀ z : Int, (0 ≤ z ∧ z ≤ c0) ∧ z = (zI x &&& zI c0).toInt → W p l e R s m args below meth c H locs cells slots Q (F0 m (pc + 1) ls (.int (zI z) :: rest))) : W p l e R s m args below meth c H locs cells slots Q (F0 m pc ls (.int (zI c0) :: .int (zI x) :: rest)) := by
  refine lv_iand hx hb hdg ?_
  obtain ⟨z, h1, h2⟩ := andc_ex (zI x) h
  rw [h1]
  exact k z ⟨h2, by rw [h1, zI_toInt ⟨by omega, by omega⟩]⟩
theorem rls_z {a b y : Int} (ra : rI a) (rb : rI b) (ry : rI y) : (0 < lg_cmp (Int32.toInt64 (zI a) + Int32.toInt64 (zI b)) (Int32.toInt64 (zI y)) ↔ y < a + b) := by
  rw [lgc_gt, Int64.lt_iff_toInt_lt, Int64.toInt_add, Int32.toInt_toInt64, Int32.toInt_toInt64, Int32.toInt_toInt64, zI_toInt ra, zI_toInt rb, zI_toInt ry, Int.bmod_eq_of_le (by omega) (by omega)]
theorem rls_gt (hx : p.tables.exec = Jvm.exec) (hb : c.code = cc) {a b y : Int} {off : Int} {tgt : Nat} (hdg : decode cc pc = .ok (.lcmp, 1)) (hd2 : decode cc (pc + 1) = .ok (.ifCond .gt off, 3)) (ht : ((pc + 1 : Nat) : Int) + off = (tgt : Int)) (ra : rI a) (rb : rI b) (ry : rI y) (kt : y < a + b → W p l e R s m args below meth c H locs cells slots Q (F0 m tgt ls rest)) (kf : a + b ≤ y → W p l e R s m args below meth c H locs cells slots Q (F0 m (pc + 1 + 3) ls rest)) : W p l e R s m args below meth c H locs cells slots Q (F0 m pc ls (.long (Int32.toInt64 (zI y)) :: .long (Int32.toInt64 (zI a) + Int32.toInt64 (zI b)) :: rest)) :=
  W.lcmp hx hb hdg (lv_if_gt hx hb hd2 ht (fun h => kt ((rls_z ra rb ry).mp h)) (fun h => kf (Int.not_lt.mp (fun q => h ((rls_z ra rb ry).mpr q)))))
theorem rls_le (hx : p.tables.exec = Jvm.exec) (hb : c.code = cc) {a b y : Int} {off : Int} {tgt : Nat} (hdg : decode cc pc = .ok (.lcmp, 1)) (hd2 : decode cc (pc + 1) = .ok (.ifCond .le off, 3)) (ht : ((pc + 1 : Nat) : Int) + off = (tgt : Int)) (ra : rI a) (rb : rI b) (ry : rI y) (kt : a + b ≤ y → W p l e R s m args below meth c H locs cells slots Q (F0 m tgt ls rest)) (kf : y < a + b → W p l e R s m args below meth c H locs cells slots Q (F0 m (pc + 1 + 3) ls rest)) : W p l e R s m args below meth c H locs cells slots Q (F0 m pc ls (.long (Int32.toInt64 (zI y)) :: .long (Int32.toInt64 (zI a) + Int32.toInt64 (zI b)) :: rest)) :=
  W.lcmp hx hb hdg (lv_if_le hx hb hd2 ht (fun h => kt (Int.not_lt.mp (fun q => i32_le0.mp h ((rls_z ra rb ry).mpr q)))) (fun h => kf (Int.not_le.mp (fun q => h (i32_le0.mpr (fun r => Int.not_lt.mpr q ((rls_z ra rb ry).mp r)))))))
end R49
