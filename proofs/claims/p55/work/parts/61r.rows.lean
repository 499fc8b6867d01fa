/-! slots: width and size of the class's row against many and width of the reference's -/
def rS (w s m v : Int) : Prop := (w = -1 ∧ m = -1) ∨ (w = v ∧ s = m ∧ 0 ≤ m ∧ 0 ≤ w)
def uS (y sl j w n w1 s1 w0 s0 : Int) : Prop := ((y = 0 ∧ sl = j) ∧ w1 = w ∧ s1 = n) ∨ (¬ (y = 0 ∧ sl = j) ∧ w1 = w0 ∧ s1 = s0)
def s4 (a b c d k : Int) : Int := if k = 0 then a else if k = 1 then b else if k = 2 then c else d
theorem s4_0 {a b c d k : Int} (h : k = 0) : s4 a b c d k = a := by unfold s4; rw [if_pos h]
theorem s4_1 {a b c d k : Int} (h : k = 1) : s4 a b c d k = b := by unfold s4; rw [if_neg (by omega), if_pos h]
theorem s4_2 {a b c d k : Int} (h : k = 2) : s4 a b c d k = c := by unfold s4; rw [if_neg (by omega), if_neg (by omega), if_pos h]
theorem s4_3 {a b c d k : Int} (h : k = 3) : s4 a b c d k = d := by unfold s4; rw [if_neg (by omega), if_neg (by omega), if_neg (by omega)]
theorem rS_0 {s v : Int} : rS (-1) s (-1) v := Or.inl ⟨rfl, rfl⟩
theorem rS_row {y1 a1 w1 n1 y2 a2 w2 n2 w' s' w0 s0 j : Int} {F G F' G' : Nat → Int} (u : uS y1 a1 j w1 n1 w' s' w0 s0) (hj : 0 ≤ j)
    (h1 : (((0 ≤ a1 ∧ a1 ≤ 3) ∧ (0 ≤ w1 ∧ w1 ≤ 3) ∧ (0 ≤ n1 ∧ n1 ≤ 60)) ∧ y1 = 0) ∨ (y1 = -2 ∧ (¬ (0 ≤ a1 ∧ a1 ≤ 3) ∨ ¬ (0 ≤ w1 ∧ w1 ≤ 3) ∨ 60 < n1) ∨ y1 = -3 ∧ ((0 ≤ a1 ∧ a1 ≤ 3) ∧ (0 ≤ w1 ∧ w1 ≤ 3) ∧ n1 < 0)))
    (h2 : (((0 ≤ a2 ∧ a2 ≤ 3) ∧ (0 ≤ w2 ∧ w2 ≤ 3) ∧ (0 ≤ n2 ∧ n2 ≤ 60)) ∧ y2 = 0 ∧ F' = uZ F (a2 : Int).toNat n2 ∧ G' = uZ G (a2 : Int).toNat w2) ∨ ((y2 = -2 ∧ (¬ (0 ≤ a2 ∧ a2 ≤ 3) ∨ ¬ (0 ≤ w2 ∧ w2 ≤ 3) ∨ 60 < n2) ∨ y2 = -3 ∧ ((0 ≤ a2 ∧ a2 ≤ 3) ∧ (0 ≤ w2 ∧ w2 ≤ 3) ∧ n2 < 0)) ∧ F' = F ∧ G' = G))
    (e1 : a2 = a1) (e2 : w2 = w1) (e3 : n2 = n1) (r : rS w0 s0 (F (j : Int).toNat) (G (j : Int).toNat)) : rS w' s' (F' (j : Int).toNat) (G' (j : Int).toNat) := by
  subst e1; subst e2; subst e3
  rcases h2 with ⟨a, b, rfl, rfl⟩ | ⟨a, rfl, rfl⟩
  · by_cases q : a2 = j
    · subst q
      rw [uZ_eq rfl, uZ_eq rfl]
      rcases u with ⟨_, p, t⟩ | ⟨p, _, _⟩
      · subst p; subst t
        exact Or.inr ⟨rfl, rfl, by omega, by omega⟩
      · exfalso; omega
    · rw [uZ_ne (by omega), uZ_ne (by omega)]
      rcases u with ⟨p, _, _⟩ | ⟨_, p, t⟩
      · exact absurd p.2 q
      · subst p; subst t; exact r
  · rcases u with ⟨p, _, _⟩ | ⟨_, p, t⟩
    · exfalso; omega
    · subst p; subst t; exact r
theorem rS_4 {w0 s0 w1 s1 w2 s2 w3 s3 k : Int} {F G : Nat → Int} (r0 : rS w0 s0 (F (0 : Int).toNat) (G (0 : Int).toNat)) (r1 : rS w1 s1 (F (1 : Int).toNat) (G (1 : Int).toNat)) (r2 : rS w2 s2 (F (2 : Int).toNat) (G (2 : Int).toNat)) (r3 : rS w3 s3 (F (3 : Int).toNat) (G (3 : Int).toNat)) (h : 0 ≤ k ∧ k ≤ 3) : rS (s4 w0 w1 w2 w3 k) (s4 s0 s1 s2 s3 k) (F (k : Int).toNat) (G (k : Int).toNat) := by
  rcases (show k = 0 ∨ k = 1 ∨ k = 2 ∨ k = 3 by omega) with rfl | rfl | rfl | rfl
  · rw [s4_0 rfl, s4_0 rfl]; exact r0
  · rw [s4_1 rfl, s4_1 rfl]; exact r1
  · rw [s4_2 rfl, s4_2 rfl]; exact r2
  · rw [s4_3 rfl, s4_3 rfl]; exact r3
def wA (w s a i y : Int) : Prop := ((a < 0 ∨ 3 < a) ∧ y = -2) ∨ ((0 ≤ a ∧ a ≤ 3) ∧ ((w = -1 ∧ y = -6) ∨ (¬ w = -1 ∧ (((i < 0 ∨ s ≤ i) ∧ y = -7) ∨ ((0 ≤ i ∧ i < s) ∧ y = 0)))))
theorem wA_mk {w s w' s' a i y : Int} (h1 : w' = w) (h2 : s' = s) (h : wA w s a i y) : wA w' s' a i y := by subst h1; subst h2; exact h
theorem writeQ {w0 s0 w1 s1 w2 s2 w3 s3 a1 i1 y1 a2 i2 y2 : Int} {F G : Nat → Int} (h1 : wA (s4 w0 w1 w2 w3 a1) (s4 s0 s1 s2 s3 a1) a1 i1 y1) (h2 : wA (F (a2 : Int).toNat) (F (a2 : Int).toNat) a2 i2 y2) (r0 : rS w0 s0 (F (0 : Int).toNat) (G (0 : Int).toNat)) (r1 : rS w1 s1 (F (1 : Int).toNat) (G (1 : Int).toNat)) (r2 : rS w2 s2 (F (2 : Int).toNat) (G (2 : Int).toNat)) (r3 : rS w3 s3 (F (3 : Int).toNat) (G (3 : Int).toNat)) (e1 : a2 = a1) (e2 : i2 = i1) (hne : ¬ y1 = y2) : False := by
  subst e1; subst e2
  by_cases h : 0 ≤ a2 ∧ a2 ≤ 3
  · have r := rS_4 r0 r1 r2 r3 h
    unfold wA at h1 h2
    unfold rS at r
    omega
  · unfold wA at h1 h2
    omega
