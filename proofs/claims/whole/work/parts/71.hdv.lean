/-! leastCommon's divisor is never 0, whatever number stands there. -/
theorem cmp_e (x y : Int64) : lg_cmp x y = 0 ↔ x = y := by
  unfold lg_cmp
  by_cases h : x > y
  · rw [if_pos h]
    constructor
    · intro q; exact absurd q (by decide)
    · intro q; subst q; exact absurd (Int64.lt_iff_toInt_lt.mp h) (by omega)
  · rw [if_neg h]
    by_cases h2 : x = y
    · rw [if_pos h2]; exact ⟨fun _ => h2, fun _ => rfl⟩
    · rw [if_neg h2]
      exact ⟨fun q => absurd q (by decide), fun q => absurd q h2⟩
theorem hdv_of {per rea ra : Nat → Int32} {pm : Nat → Nat} {rn rm : Nat} (_ : RR per rea rn pm ra rm) : ∀ (x : Int64) (i : Nat), i < 4 → ¬ fX6_commonDivisor x (per i).toInt64 = 0 := fun _ _ _ => cd_ne _ _
