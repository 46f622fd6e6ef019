/-- how many of the numbers below n -/
def cnt (p : Nat → Bool) : Nat → Nat
  | 0 => 0
  | n + 1 => cnt p n + (if p n = true then 1 else 0)
theorem cnt_al {p q : Nat → Bool} : ∀ n, (∀ i, i < n → p i = q i) → cnt p n = cnt q n
  | 0, _ => rfl
  | n + 1, h => by rw [cnt, cnt, cnt_al n (fun i hi => h i (by omega)), h n (by omega)]
theorem cnt_mul {q : Nat} (hq : 0 < q) : ∀ (j i : Nat), i ≤ q → cnt (fun v => decide (q ∣ v)) (q * j + i) = j + (if i = 0 then 0 else 1) := by
  intro j
  induction j with
  | zero =>
    intro i
    induction i with
    | zero => intro _; rfl
    | succ i ih =>
      intro hi
      rw [show q * 0 + (i + 1) = (q * 0 + i) + 1 by omega, cnt, ih (by omega), if_neg (show ¬ i + 1 = 0 by omega)]
      by_cases e : i = 0
      · subst e
        rw [if_pos rfl, if_pos (by simp)]
      · rw [if_neg e, if_neg]
        intro z
        have z : q ∣ q * 0 + i := of_decide_eq_true z
        rw [Nat.mul_zero, Nat.zero_add] at z
        exact absurd (Nat.le_of_dvd (by omega) z) (by omega)
  | succ j ihj =>
    intro i
    induction i with
    | zero =>
      intro _
      rw [Nat.add_zero, if_pos rfl, Nat.mul_succ, ihj q (Nat.le_refl q), if_neg (by omega)]
    | succ i ih =>
      intro hi
      rw [show q * (j + 1) + (i + 1) = (q * (j + 1) + i) + 1 by omega, cnt, ih (by omega), if_neg (show ¬ i + 1 = 0 by omega)]
      by_cases e : i = 0
      · subst e
        rw [if_pos rfl, if_pos (decide_eq_true (show q ∣ q * (j + 1) + 0 from Nat.dvd_mul_right q (j + 1)))]
      · rw [if_neg e, if_neg]
        intro z
        have z : q ∣ q * (j + 1) + i := of_decide_eq_true z
        have z := (Nat.dvd_add_right (Nat.dvd_mul_right q (j + 1))).mp z
        exact absurd (Nat.le_of_dvd (by omega) z) (by omega)
/-- the greatest divisor that R has in common with P a, P (a + 1) .. -/
def gch (R : Nat) (P : Nat → Nat) (a : Nat) : Nat → Nat
  | 0 => R
  | m + 1 => Nat.gcd (gch R P a m) (P (a + m))
theorem gch_dvd (R : Nat) (P : Nat → Nat) (a : Nat) : ∀ m, gch R P a m ∣ R
  | 0 => Nat.dvd_refl R
  | m + 1 => Nat.dvd_trans (Nat.gcd_dvd_left _ _) (gch_dvd R P a m)
theorem gch_iff (R : Nat) (P : Nat → Nat) (a v : Nat) : ∀ m, (∀ i, i < m → R ∣ v * P (a + i)) ↔ R ∣ v * gch R P a m
  | 0 => ⟨fun _ => Nat.dvd_mul_left R v, fun _ i hi => absurd hi (Nat.not_lt_zero i)⟩
  | m + 1 => by
    have ih := gch_iff R P a v m
    rw [gch, ← Nat.gcd_mul_left, Nat.dvd_gcd_iff, ← ih]
    constructor
    · intro h
      exact ⟨fun i hi => h i (by omega), h m (by omega)⟩
    · intro h i hi
      rcases Nat.lt_or_ge i m with q | q
      · exact h.1 i q
      · rw [show i = m by omega]; exact h.2
theorem gch_cnt {R : Nat} (hR : 0 < R) (P : Nat → Nat) (a m : Nat) : cnt (fun v => decide (R ∣ v * gch R P a m)) R = gch R P a m := by
  obtain ⟨q, hq⟩ := gch_dvd R P a m
  generalize gch R P a m = g at hq ⊢
  subst hq
  have hg : 0 < g := Nat.pos_of_ne_zero (fun z => by subst z; simp at hR)
  have hq : 0 < q := Nat.pos_of_ne_zero (fun z => by subst z; simp at hR)
  have h := cnt_mul hq g 0 (by omega)
  rw [Nat.add_zero, if_pos rfl, Nat.add_zero, Nat.mul_comm] at h
  refine (cnt_al (q := fun v => decide (q ∣ v)) (g * q) (fun v _ => ?_)).trans h
  apply decide_eq_decide.mpr
  rw [Nat.mul_comm v g]
  exact Nat.mul_dvd_mul_iff_left hg
