/-! leastCommon's divisor is never 0, whatever number stands there (signed too). -/
theorem cmp_e (x y : Int64) : lg_cmp x y = 0 ↔ x = y := by
  unfold lg_cmp
  by_cases h : x > y
  · rw [if_pos h]
    constructor
    · intro q; exact absurd q (by decide)
    · intro q; subst q; exact absurd (Int64.lt_iff_toInt_lt.mp h) (by omega)
  · rw [if_neg h]
    by_cases h2 : x = y
    · rw [if_pos h2]; exact ⟨fun _ => h2, fun _ => rfl⟩
    · rw [if_neg h2]
      exact ⟨fun q => absurd q (by decide), fun q => absurd q h2⟩
theorem i64_rem {a b : Int64} (ha : -1099511627776 < a.toInt) (ha2 : a.toInt < 1099511627776) : (a - a / b * b).toInt = a.toInt.tmod b.toInt := by
  have h1 := Int.natAbs_tdiv_le_natAbs a.toInt b.toInt
  have h2 := Int.tdiv_mul_add_tmod a.toInt b.toInt
  have h3 : (a.toInt.tmod b.toInt).natAbs ≤ a.toInt.natAbs := by rw [Int.natAbs_tmod]; exact Nat.mod_le _ _
  rw [Int64.toInt_sub, Int64.toInt_mul, Int64.toInt_div]
  generalize a.toInt.tdiv b.toInt = q at *
  generalize a.toInt.tmod b.toInt = t at *
  rw [Int.bmod_eq_of_le_mul_two (x := q) (by omega) (by omega)]
  have e : q * b.toInt = a.toInt - t := by omega
  rw [e, Int.bmod_eq_of_le_mul_two (x := a.toInt - t) (by omega) (by omega), Int.bmod_eq_of_le_mul_two (by omega) (by omega)]
  omega
theorem cdz_end {a : Int64} (ha : a.toInt.natAbs ≤ 60) : ¬ (if lg_cmp a 1 < 0 then (1 : Int64) else a).toInt32 = 0 := by
  by_cases h : lg_cmp a 1 < 0
  · rw [if_pos h]; decide
  · rw [if_neg h]
    intro q
    have q2 : a.toInt32.toInt = 0 := by rw [q]; rfl
    rw [Int64.toInt_toInt32, Int.bmod_eq_of_le_mul_two (by omega) (by omega)] at q2
    have q3 : a = 0 := Int64.toInt_inj.mp q2
    subst q3
    exact h (by decide)
theorem cdz_ne : ∀ (r k : Nat) (a b : Int64), a.toInt.natAbs ≤ 60 → b.toInt.natAbs ≤ 60 → ¬ (F_X6_commonDivisor_9 r k a b).toInt32 = 0 := by
  intro r
  induction r with
  | zero => intro k a b ha hb; rw [F_X6_commonDivisor_9]; exact cdz_end ha
  | succ r ih =>
    intro k a b ha hb
    rw [F_X6_commonDivisor_9]
    by_cases c : lg_cmp b 0 = 0
    · rw [if_pos c]; exact cdz_end ha
    · rw [if_neg c]
      have hb0 : b.toInt ≠ 0 := fun q => c ((cmp_e b 0).mpr (Int64.toInt_inj.mp q))
      refine ih (k + 1) b _ hb ?_
      rw [i64_rem (by omega) (by omega), Int.natAbs_tmod]
      have : a.toInt.natAbs % b.toInt.natAbs < b.toInt.natAbs := Nat.mod_lt _ (by omega)
      omega
theorem hdv_of {per rea ra : Nat → Int32} {pm : Nat → Nat} {rn rm : Nat} (h : RR per rea rn pm ra rm) : ∀ (x : Int32) (i : Nat), i < 4 → ¬ (fX6_commonDivisor x.toInt64 (per i).toInt64).toInt32 = 0 := by
  intro x i hi
  obtain ⟨p, h1, h2, hp⟩ := h.2.2.2.2 i hi
  have ep : (per i).toInt64.toInt = p := by rw [Int32.toInt_toInt64, hp, nI_toInt (by omega)]
  have hx1 := Int32.le_toInt x
  have hx2 := Int32.toInt_lt x
  unfold fX6_commonDivisor
  rw [show (1000 - 0 : Nat) = 999 + 1 from rfl, F_X6_commonDivisor_9, if_neg (fun q => by
    have q2 := (cmp_e _ 0).mp q
    rw [q2] at ep
    have : (0 : Int64).toInt = 0 := rfl
    omega)]
  refine cdz_ne _ _ _ _ (by omega) ?_
  rw [i64_rem (by rw [Int32.toInt_toInt64]; omega) (by rw [Int32.toInt_toInt64]; omega), Int.natAbs_tmod]
  have : x.toInt64.toInt.natAbs % (per i).toInt64.toInt.natAbs < (per i).toInt64.toInt.natAbs := Nat.mod_lt _ (by omega)
  omega
