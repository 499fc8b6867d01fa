theorem ps_0 (x0 : Int32) (h0 : ¬ (x0 < 0)) (h1 : ¬ (0 ≤ x0)) : False := by
  simp only [Int32.lt_iff_toInt_lt, Int32.le_iff_toInt_le, Int64.lt_iff_toInt_lt, Int64.le_iff_toInt_le, ← Int32.toInt_inj, Int32.toInt_toInt64, Int32.reduceToInt, Int64.reduceToInt] at *; omega
theorem ps_1 (x0 : Int32) (h0 : (¬ (x0 < 0)) ∧ (¬ (4 ≤ x0))) : x0 = 0 ∨ x0 = 1 ∨ x0 = 2 ∨ x0 = 3 := by
  simp only [Int32.lt_iff_toInt_lt, Int32.le_iff_toInt_le, Int64.lt_iff_toInt_lt, Int64.le_iff_toInt_le, ← Int32.toInt_inj, Int32.toInt_toInt64, Int32.reduceToInt, Int64.reduceToInt] at *; omega
theorem ps_2 (x0 : Int32) (h0 : (¬ (x0 < 0)) ∧ (¬ (2 ≤ x0))) : x0 = 0 ∨ x0 = 1 := by
  simp only [Int32.lt_iff_toInt_lt, Int32.le_iff_toInt_le, Int64.lt_iff_toInt_lt, Int64.le_iff_toInt_le, ← Int32.toInt_inj, Int32.toInt_toInt64, Int32.reduceToInt, Int64.reduceToInt] at *; omega
theorem ps_3 (x0 : Int32) : (x0.toInt < 0 ∨ 11 < x0.toInt) ∨ x0 = 0 ∨ x0 = 1 ∨ x0 = 2 ∨ x0 = 3 ∨ x0 = 4 ∨ x0 = 5 ∨ x0 = 6 ∨ x0 = 7 ∨ x0 = 8 ∨ x0 = 9 ∨ x0 = 10 ∨ x0 = 11 := by
  simp only [Int32.lt_iff_toInt_lt, Int32.le_iff_toInt_le, Int64.lt_iff_toInt_lt, Int64.le_iff_toInt_le, ← Int32.toInt_inj, Int32.toInt_toInt64, Int32.reduceToInt, Int64.reduceToInt] at *; omega
theorem ps_4 (x0 : Int32) (h0 : ¬ (x0 < 0)) (h1 : x0 < 3) : x0 = 0 ∨ x0 = 1 ∨ x0 = 2 := by
  simp only [Int32.lt_iff_toInt_lt, Int32.le_iff_toInt_le, Int64.lt_iff_toInt_lt, Int64.le_iff_toInt_le, ← Int32.toInt_inj, Int32.toInt_toInt64, Int32.reduceToInt, Int64.reduceToInt] at *; omega
theorem ps_5 (x0 : Int32) (h0 : (0 ≤ (Int32.toInt64 x0)) ∧ ((Int32.toInt64 x0) ≤ (-1))) : False := by
  simp only [Int32.lt_iff_toInt_lt, Int32.le_iff_toInt_le, Int64.lt_iff_toInt_lt, Int64.le_iff_toInt_le, ← Int32.toInt_inj, Int32.toInt_toInt64, Int32.reduceToInt, Int64.reduceToInt] at *; omega
theorem ps_6 (x0 : Int32) (h0 : ((0 ≤ (Int32.toInt64 x0)) ∧ ((Int32.toInt64 x0) ≤ 3))) : x0 = 0 ∨ x0 = 1 ∨ x0 = 2 ∨ x0 = 3 := by
  simp only [Int32.lt_iff_toInt_lt, Int32.le_iff_toInt_le, Int64.lt_iff_toInt_lt, Int64.le_iff_toInt_le, ← Int32.toInt_inj, Int32.toInt_toInt64, Int32.reduceToInt, Int64.reduceToInt] at *; omega
theorem ps_7 (x0 : Int32) (h0 : ((0 ≤ (Int32.toInt64 x0)) ∧ ((Int32.toInt64 x0) ≤ 1))) : x0 = 0 ∨ x0 = 1 := by
  simp only [Int32.lt_iff_toInt_lt, Int32.le_iff_toInt_le, Int64.lt_iff_toInt_lt, Int64.le_iff_toInt_le, ← Int32.toInt_inj, Int32.toInt_toInt64, Int32.reduceToInt, Int64.reduceToInt] at *; omega
theorem ps_8 (x0 : Int32) (h0 : (0 ≤ (Int32.toInt64 x0)) ∧ ((Int32.toInt64 x0) ≤ 2)) : x0 = 0 ∨ x0 = 1 ∨ x0 = 2 := by
  simp only [Int32.lt_iff_toInt_lt, Int32.le_iff_toInt_le, Int64.lt_iff_toInt_lt, Int64.le_iff_toInt_le, ← Int32.toInt_inj, Int32.toInt_toInt64, Int32.reduceToInt, Int64.reduceToInt] at *; omega
