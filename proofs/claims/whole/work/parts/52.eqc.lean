/-- looked at from both sides: how far two numbers are, and the way round -/
theorem near_ab (x p er : Int32) : (er < (if (p - (if 0 ≤ x then x else 0 - x)) < (if 0 ≤ x then x else 0 - x) then p - (if 0 ≤ x then x else 0 - x) else (if 0 ≤ x then x else 0 - x))) ↔ (er < (if 0 ≤ -x then -x else -(-x)) ∧ er < p - (if 0 ≤ -x then -x else -(-x))) := by
  have e : (if 0 ≤ -x then -x else -(-x)) = (if 0 ≤ x then x else 0 - x) := by
    rw [i32_le, i32_le]
    have hx := Int32.le_toInt x
    have hx2 := Int32.toInt_lt x
    by_cases m : x = -2147483648
    · subst m; decide
    · have hn : (-x).toInt = -x.toInt := by
        rw [Int32.toInt_neg]
        have : x.toInt ≠ -2147483648 := fun q => m (by rw [← Int32.toInt_inj, q]; rfl)
        apply Int.bmod_eq_of_le <;> omega
      simp only [hn, show (0 : Int32).toInt = 0 from rfl, Int32.neg_neg]
      by_cases h0 : x.toInt = 0
      · have : x = 0 := by rw [← Int32.toInt_inj, h0]; rfl
        subst this; decide
      · by_cases h1 : 0 ≤ x.toInt
        · rw [if_neg (by omega), if_pos h1]
        · rw [if_pos (by omega), if_neg h1, Int32.zero_sub]
  rw [e]
  generalize (if 0 ≤ x then x else 0 - x) = y
  by_cases h : p - y < y
  · rw [if_pos h]
    rw [i32_lt] at h
    rw [i32_lt, i32_lt]
    omega
  · rw [if_neg h]
    rw [i32_lt] at h
    rw [i32_lt, i32_lt]
    omega
