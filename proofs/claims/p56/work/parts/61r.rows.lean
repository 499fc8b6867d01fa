/-! slots: width and size of the class's row against many and width of the reference's -/
def rS (w s m v : Int) : Prop := (w = -1 ∧ m = -1) ∨ (w = v ∧ s = m ∧ 0 ≤ m ∧ 0 ≤ w)
def uS (y sl j w n w1 s1 w0 s0 : Int) : Prop := ((y = 0 ∧ sl = j) ∧ w1 = w ∧ s1 = n) ∨ (¬ (y = 0 ∧ sl = j) ∧ w1 = w0 ∧ s1 = s0)
def s4 (a b c d k : Int) : Int := if k = 0 then a else if k = 1 then b else if k = 2 then c else d
theorem s4_0 {a b c d k : Int} (h : k = 0) : s4 a b c d k = a := by unfold s4; rw [if_pos h]
theorem s4_1 {a b c d k : Int} (h : k = 1) : s4 a b c d k = b := by unfold s4; rw [if_neg (by omega), if_pos h]
theorem s4_2 {a b c d k : Int} (h : k = 2) : s4 a b c d k = c := by unfold s4; rw [if_neg (by omega), if_neg (by omega), if_pos h]
theorem s4_3 {a b c d k : Int} (h : k = 3) : s4 a b c d k = d := by unfold s4; rw [if_neg (by omega), if_neg (by omega), if_neg (by omega)]
theorem rS_0 {s v : Int} : rS (-1) s (-1) v := Or.inl ⟨rfl, rfl⟩
theorem rS_row {y1 a1 w1 n1 y2 a2 w2 n2 w' s' w0 s0 j : Int} {F G F' G' : Nat → Int} (u : uS y1 a1 j w1 n1 w' s' w0 s0) (hj : 0 ≤ j)
    (h1 : (((0 ≤ a1 ∧ a1 ≤ 3) ∧ (0 ≤ w1 ∧ w1 ≤ 3) ∧ (0 ≤ n1 ∧ n1 ≤ 60)) ∧ y1 = 0) ∨ (y1 = -2 ∧ (¬ (0 ≤ a1 ∧ a1 ≤ 3) ∨ ¬ (0 ≤ w1 ∧ w1 ≤ 3) ∨ 60 < n1) ∨ y1 = -3 ∧ ((0 ≤ a1 ∧ a1 ≤ 3) ∧ (0 ≤ w1 ∧ w1 ≤ 3) ∧ n1 < 0)))
    (h2 : (((0 ≤ a2 ∧ a2 ≤ 3) ∧ (0 ≤ w2 ∧ w2 ≤ 3) ∧ (0 ≤ n2 ∧ n2 ≤ 60)) ∧ y2 = 0 ∧ F' = uZ F (a2 : Int).toNat n2 ∧ G' = uZ G (a2 : Int).toNat w2) ∨ ((y2 = -2 ∧ (¬ (0 ≤ a2 ∧ a2 ≤ 3) ∨ ¬ (0 ≤ w2 ∧ w2 ≤ 3) ∨ 60 < n2) ∨ y2 = -3 ∧ ((0 ≤ a2 ∧ a2 ≤ 3) ∧ (0 ≤ w2 ∧ w2 ≤ 3) ∧ n2 < 0)) ∧ F' = F ∧ G' = G))
    (e1 : a2 = a1) (e2 : w2 = w1) (e3 : n2 = n1) (r : rS w0 s0 (F (j : Int).toNat) (G (j : Int).toNat)) : rS w' s' (F' (j : Int).toNat) (G' (j : Int).toNat) := by
  subst e1; subst e2; subst e3
  rcases h2 with ⟨a, b, rfl, rfl⟩ | ⟨a, rfl, rfl⟩
  · by_cases q : a2 = j
    · subst q
      rw [uZ_eq rfl, uZ_eq rfl]
      rcases u with ⟨_, p, t⟩ | ⟨p, _, _⟩
      · subst p; subst t
        exact Or.inr ⟨rfl, rfl, by omega, by omega⟩
      · exfalso; omega
    · rw [uZ_ne (by omega), uZ_ne (by omega)]
      rcases u with ⟨p, _, _⟩ | ⟨_, p, t⟩
      · exact absurd p.2 q
      · subst p; subst t; exact r
  · rcases u with ⟨p, _, _⟩ | ⟨_, p, t⟩
    · exfalso; omega
    · subst p; subst t; exact r
theorem rS_4 {w0 s0 w1 s1 w2 s2 w3 s3 k : Int} {F G : Nat → Int} (r0 : rS w0 s0 (F (0 : Int).toNat) (G (0 : Int).toNat)) (r1 : rS w1 s1 (F (1 : Int).toNat) (G (1 : Int).toNat)) (r2 : rS w2 s2 (F (2 : Int).toNat) (G (2 : Int).toNat)) (r3 : rS w3 s3 (F (3 : Int).toNat) (G (3 : Int).toNat)) (h : 0 ≤ k ∧ k ≤ 3) : rS (s4 w0 w1 w2 w3 k) (s4 s0 s1 s2 s3 k) (F (k : Int).toNat) (G (k : Int).toNat) := by
  rcases (show k = 0 ∨ k = 1 ∨ k = 2 ∨ k = 3 by omega) with rfl | rfl | rfl | rfl
  · rw [s4_0 rfl, s4_0 rfl]; exact r0
  · rw [s4_1 rfl, s4_1 rfl]; exact r1
  · rw [s4_2 rfl, s4_2 rfl]; exact r2
  · rw [s4_3 rfl, s4_3 rfl]; exact r3
def pA (ws ss wt st a b i k n y : Int) : Prop := ((a < 0 ∨ 3 < a ∨ b < 0 ∨ 3 < b) ∧ y = -2) ∨ (((0 ≤ a ∧ a ≤ 3) ∧ (0 ≤ b ∧ b ≤ 3)) ∧ (((ws = -1 ∨ wt = -1) ∧ y = -6) ∨ ((¬ ws = -1 ∧ ¬ wt = -1) ∧ ((¬ ws = wt ∧ y = -8) ∨ (ws = wt ∧ (((i < 0 ∨ k < 0 ∨ n < 0 ∨ ss < i + n ∨ st < k + n) ∧ y = -7) ∨ ((0 ≤ i ∧ 0 ≤ k ∧ 0 ≤ n ∧ i + n ≤ ss ∧ k + n ≤ st) ∧ y = 0)))))))
def pB (ms vs mt vt a b i k n y : Int) : Prop := ((a < 0 ∨ 3 < a ∨ b < 0 ∨ 3 < b) ∧ y = -2) ∨ (((0 ≤ a ∧ a ≤ 3) ∧ (0 ≤ b ∧ b ≤ 3)) ∧ (((ms = -1 ∨ mt = -1) ∧ y = -6) ∨ ((¬ ms = -1 ∧ ¬ mt = -1) ∧ ((¬ vs = vt ∧ y = -8) ∨ (vs = vt ∧ (((i < 0 ∨ k < 0 ∨ n < 0 ∨ ms < i + n ∨ mt < k + n) ∧ y = -7) ∨ ((0 ≤ i ∧ 0 ≤ k ∧ 0 ≤ n ∧ i + n ≤ ms ∧ k + n ≤ mt) ∧ y = 0)))))))
theorem pA_2 {ws ss wt st a b i k n : Int} (h : a < 0 ∨ 3 < a ∨ b < 0 ∨ 3 < b) : pA ws ss wt st a b i k n (-2) := Or.inl ⟨h, rfl⟩
theorem pA_6 {ws ss wt st a b i k n : Int} (h : (0 ≤ a ∧ a ≤ 3) ∧ (0 ≤ b ∧ b ≤ 3)) (q : ws = -1 ∨ wt = -1) : pA ws ss wt st a b i k n (-6) := Or.inr ⟨h, Or.inl ⟨q, rfl⟩⟩
theorem pA_8 {ws ss wt st a b i k n : Int} (h : (0 ≤ a ∧ a ≤ 3) ∧ (0 ≤ b ∧ b ≤ 3)) (q : ¬ ws = -1 ∧ ¬ wt = -1) (q2 : ¬ ws = wt) : pA ws ss wt st a b i k n (-8) := Or.inr ⟨h, Or.inr ⟨q, Or.inl ⟨q2, rfl⟩⟩⟩
theorem pA_7 {ws ss wt st a b i k n : Int} (h : (0 ≤ a ∧ a ≤ 3) ∧ (0 ≤ b ∧ b ≤ 3)) (q : ¬ ws = -1 ∧ ¬ wt = -1) (q2 : ws = wt) (q3 : i < 0 ∨ k < 0 ∨ n < 0 ∨ ss < i + n ∨ st < k + n) : pA ws ss wt st a b i k n (-7) := Or.inr ⟨h, Or.inr ⟨q, Or.inr ⟨q2, Or.inl ⟨q3, rfl⟩⟩⟩⟩
theorem pA_0 {ws ss wt st a b i k n : Int} (h : (0 ≤ a ∧ a ≤ 3) ∧ (0 ≤ b ∧ b ≤ 3)) (q : ¬ ws = -1 ∧ ¬ wt = -1) (q2 : ws = wt) (q3 : 0 ≤ i ∧ 0 ≤ k ∧ 0 ≤ n ∧ i + n ≤ ss ∧ k + n ≤ st) : pA ws ss wt st a b i k n 0 := Or.inr ⟨h, Or.inr ⟨q, Or.inr ⟨q2, Or.inr ⟨q3, rfl⟩⟩⟩⟩
theorem pB_2 {ms vs mt vt a b i k n : Int} (h : a < 0 ∨ 3 < a ∨ b < 0 ∨ 3 < b) : pB ms vs mt vt a b i k n (-2) := Or.inl ⟨h, rfl⟩
theorem pB_6 {ms vs mt vt a b i k n : Int} (h : (0 ≤ a ∧ a ≤ 3) ∧ (0 ≤ b ∧ b ≤ 3)) (q : ms = -1 ∨ mt = -1) : pB ms vs mt vt a b i k n (-6) := Or.inr ⟨h, Or.inl ⟨q, rfl⟩⟩
theorem pB_8 {ms vs mt vt a b i k n : Int} (h : (0 ≤ a ∧ a ≤ 3) ∧ (0 ≤ b ∧ b ≤ 3)) (q : ¬ ms = -1 ∧ ¬ mt = -1) (q2 : ¬ vs = vt) : pB ms vs mt vt a b i k n (-8) := Or.inr ⟨h, Or.inr ⟨q, Or.inl ⟨q2, rfl⟩⟩⟩
theorem pB_7 {ms vs mt vt a b i k n : Int} (h : (0 ≤ a ∧ a ≤ 3) ∧ (0 ≤ b ∧ b ≤ 3)) (q : ¬ ms = -1 ∧ ¬ mt = -1) (q2 : vs = vt) (q3 : i < 0 ∨ k < 0 ∨ n < 0 ∨ ms < i + n ∨ mt < k + n) : pB ms vs mt vt a b i k n (-7) := Or.inr ⟨h, Or.inr ⟨q, Or.inr ⟨q2, Or.inl ⟨q3, rfl⟩⟩⟩⟩
theorem pB_0 {ms vs mt vt a b i k n : Int} (h : (0 ≤ a ∧ a ≤ 3) ∧ (0 ≤ b ∧ b ≤ 3)) (q : ¬ ms = -1 ∧ ¬ mt = -1) (q2 : vs = vt) (q3 : 0 ≤ i ∧ 0 ≤ k ∧ 0 ≤ n ∧ i + n ≤ ms ∧ k + n ≤ mt) : pB ms vs mt vt a b i k n 0 := Or.inr ⟨h, Or.inr ⟨q, Or.inr ⟨q2, Or.inr ⟨q3, rfl⟩⟩⟩⟩
theorem pA_mk {ws ss wt st ws' ss' wt' st' a b i k n y : Int} (h1 : ws' = ws) (h2 : ss' = ss) (h3 : wt' = wt) (h4 : st' = st) (h : pA ws ss wt st a b i k n y) : pA ws' ss' wt' st' a b i k n y := by subst h1; subst h2; subst h3; subst h4; exact h
theorem pQ0 {ws ss wt st ms vs mt vt a b i k n y1 y2 : Int} (h1 : pA ws ss wt st a b i k n y1) (h2 : pB ms vs mt vt a b i k n y2) (r : (0 ≤ a ∧ a ≤ 3) ∧ (0 ≤ b ∧ b ≤ 3) → rS ws ss ms vs ∧ rS wt st mt vt) : y1 = y2 := by
  rcases h1 with ⟨o1, rfl⟩ | ⟨o1, h1⟩
  · rcases h2 with ⟨o2, rfl⟩ | ⟨o2, h2⟩
    · rfl
    · exfalso; omega
  · rcases h2 with ⟨o2, rfl⟩ | ⟨o2, h2⟩
    · exfalso; omega
    · obtain ⟨r1, r2⟩ := r o1
      rcases r1 with ⟨p1, p2⟩ | ⟨p1, p2, p3, p4⟩
      · rcases h1 with ⟨_, rfl⟩ | ⟨q, _⟩
        · rcases h2 with ⟨_, rfl⟩ | ⟨q, _⟩
          · rfl
          · exact absurd p2 q.1
        · exact absurd p1 q.1
      · rcases r2 with ⟨t1, t2⟩ | ⟨t1, t2, t3, t4⟩
        · rcases h1 with ⟨_, rfl⟩ | ⟨q, _⟩
          · rcases h2 with ⟨_, rfl⟩ | ⟨q, _⟩
            · rfl
            · exact absurd t2 q.2
          · exact absurd t1 q.2
        · subst p1; subst p2; subst t1; subst t2
          rcases h1 with ⟨q, rfl⟩ | ⟨q, h1⟩
          · exfalso; omega
          · rcases h2 with ⟨q, rfl⟩ | ⟨q, h2⟩
            · exfalso; omega
            · rcases h1 with ⟨u1, rfl⟩ | ⟨u1, h1⟩
              · rcases h2 with ⟨u2, rfl⟩ | ⟨u2, h2⟩
                · rfl
                · exact absurd u2 u1
              · rcases h2 with ⟨u2, rfl⟩ | ⟨u2, h2⟩
                · exact absurd u1 u2
                · rcases h1 with ⟨x1, rfl⟩ | ⟨x1, rfl⟩
                  · rcases h2 with ⟨x2, rfl⟩ | ⟨x2, rfl⟩
                    · rfl
                    · exfalso; omega
                  · rcases h2 with ⟨x2, rfl⟩ | ⟨x2, rfl⟩
                    · exfalso; omega
                    · rfl
theorem pasteQ {w0 s0 w1 s1 w2 s2 w3 s3 a1 b1 i1 k1 n1 y1 a2 b2 i2 k2 n2 y2 : Int} {F G : Nat → Int} (h1 : pA (s4 w0 w1 w2 w3 a1) (s4 s0 s1 s2 s3 a1) (s4 w0 w1 w2 w3 b1) (s4 s0 s1 s2 s3 b1) a1 b1 i1 k1 n1 y1) (h2 : pB (F (a2 : Int).toNat) (G (a2 : Int).toNat) (F (b2 : Int).toNat) (G (b2 : Int).toNat) a2 b2 i2 k2 n2 y2) (r0 : rS w0 s0 (F (0 : Int).toNat) (G (0 : Int).toNat)) (r1 : rS w1 s1 (F (1 : Int).toNat) (G (1 : Int).toNat)) (r2 : rS w2 s2 (F (2 : Int).toNat) (G (2 : Int).toNat)) (r3 : rS w3 s3 (F (3 : Int).toNat) (G (3 : Int).toNat)) (e1 : a2 = a1) (e2 : i2 = i1) (e3 : b2 = b1) (e4 : k2 = k1) (e5 : n2 = n1) (hne : ¬ y1 = y2) : False := by
  subst e1; subst e2; subst e3; subst e4; subst e5
  exact hne (pQ0 h1 h2 (fun h => ⟨rS_4 r0 r1 r2 r3 h.1, rS_4 r0 r1 r2 r3 h.2⟩))
