theorem com_sw {x p : Nat} : x * (p / Nat.gcd x p) = x / Nat.gcd x p * p := by
  rw [← Nat.mul_div_assoc x (Nat.gcd_dvd_right x p), Nat.mul_comm x p, Nat.mul_div_assoc p (Nat.gcd_dvd_left x p), Nat.mul_comm]
theorem e_common {per rea ra : Nat → Int32} {pm : Nat → Nat} {rn rm : Nat} (h : RR per rea rn pm ra rm) : fX6_common per rn = fX7_common rm pm := by
  obtain ⟨rfl, hr, h1, h2, h3⟩ := h
  have key : ∀ (r k X : Nat), k + r = rn → 1 ≤ X → X ≤ 60 ^ k → F_X2_leastCommon_4 per r k (lN X) = F_X7_common_4 pm r k X := by
    intro r
    induction r with
    | zero => intro k X hk hX hX2; rw [F_X2_leastCommon_4, F_X7_common_4]
    | succ r ih =>
      intro k X hk hX hX2
      have hp := h2 k (by omega)
      have hb : X ≤ 60 ^ 4 := Nat.le_trans hX2 (Nat.pow_le_pow_right (by omega) (by omega))
      have hb : X ≤ 12960000 := hb
      have hg : 0 < Nat.gcd X (pm k) := Nat.gcd_pos_of_pos_left _ hX
      have hg2 : Nat.gcd X (pm k) ≤ X := Nat.gcd_le_left _ hX
      rw [F_X2_leastCommon_4, F_X7_common_4, (h1 k (by omega)).1, nI_l (by omega), cd_gcd hX (by omega) (by omega), pk_lDiv (by omega) hg (by omega), lN_mul, com_sw]
      exact ih (k + 1) _ (by omega) (com_pos hX hp.1) (com_le hX hX2 hp.2)
  exact key (rn - 0) 0 1 (by omega) (Nat.le_refl 1) (Nat.le_refl 1)
theorem F_copy5 (tr2 : Nat → Int32) (n2 : Nat) : ∀ (r k : Nat) (tr : Nat → Int32), F_X5_copy_10 tr2 n2 r k tr = (n2, filF tr tr2 k r) := by
  intro r
  induction r with
  | zero => intro k tr; rw [F_X5_copy_10, filF_0]
  | succ r ih => intro k tr; rw [F_X5_copy_10, ih, filF_s]
theorem upd_self (f : Nat → Int32) (k : Nat) : upd f k (f k) = f := by
  funext i
  unfold upd
  by_cases e : i = k
  · rw [if_pos e, e]
  · rw [if_neg e]
theorem F_copys (n : Nat) : ∀ (r k : Nat) (tr : Nat → Int32), F_X5_copy_same_10 n r k tr = (n, tr) := by
  intro r
  induction r with
  | zero => intro k tr; rw [F_X5_copy_same_10]
  | succ r ih => intro k tr; rw [F_X5_copy_same_10, upd_self, ih]
theorem F_mirror5 : ∀ (r k : Nat) (tr : Nat → Int32), F_X5_mirror_2 r k tr = filF tr (fun i => (-(tr i)) &&& 3) k r := by
  intro r
  induction r with
  | zero => intro k tr; rw [F_X5_mirror_2, filF_0]
  | succ r ih =>
    intro k tr
    rw [F_X5_mirror_2, ih, ← filF_s]
    funext i
    unfold filF
    by_cases c : k + 1 ≤ i ∧ i < k + 1 + r
    · rw [if_pos c, if_pos c]
      show (-(upd tr k ((-(tr k)) &&& 3) i)) &&& 3 = (-(tr i)) &&& 3
      rw [show upd tr k ((-(tr k)) &&& 3) i = tr i from if_neg (by omega)]
    · rw [if_neg c, if_neg c]
theorem F_adv5 : ∀ (r k : Nat) (tr : Nat → Int32), F_X5_advance_2 r k tr = filF tr (fun i => ((tr i) + 1) &&& 3) k r := by
  intro r
  induction r with
  | zero => intro k tr; rw [F_X5_advance_2, filF_0]
  | succ r ih =>
    intro k tr
    rw [F_X5_advance_2, ih, ← filF_s]
    funext i
    unfold filF
    by_cases c : k + 1 ≤ i ∧ i < k + 1 + r
    · rw [if_pos c, if_pos c]
      show ((upd tr k (((tr k) + 1) &&& 3) i) + 1) &&& 3 = ((tr i) + 1) &&& 3
      rw [show upd tr k (((tr k) + 1) &&& 3) i = tr i from if_neg (by omega)]
    · rw [if_neg c, if_neg c]
theorem F_rev5 (n : Nat) : ∀ (r k : Nat) (tr : Nat → Int32) (i : Nat), k + r = n / 2 → i < n → F_X5_reverse_2 n r k tr i = (if k ≤ i ∧ k ≤ n - 1 - i then tr (n - 1 - i) else tr i) := by
  intro r
  induction r with
  | zero =>
    intro k tr i hk hi
    rw [F_X5_reverse_2]
    by_cases c : k ≤ i ∧ k ≤ n - 1 - i
    · rw [if_pos c, show n - 1 - i = i by omega]
    · rw [if_neg c]
  | succ r ih =>
    intro k tr i hk hi
    rw [F_X5_reverse_2, ih (k + 1) _ i (by omega) hi]
    have u1 : ∀ j, ¬ j = n - 1 - k → ¬ j = k → upd (upd tr k (tr (n - 1 - k))) (n - 1 - k) (tr k) j = tr j := by
      intro j h1 h2
      unfold upd
      rw [if_neg h1, if_neg h2]
    by_cases c : k + 1 ≤ i ∧ k + 1 ≤ n - 1 - i
    · rw [if_pos c, if_pos (show k ≤ i ∧ k ≤ n - 1 - i by omega), u1 _ (by omega) (by omega)]
    · rw [if_neg c]
      by_cases e : i = n - 1 - k
      · rw [if_pos (show k ≤ i ∧ k ≤ n - 1 - i by omega), show n - 1 - i = k by omega]
        unfold upd
        rw [if_pos e]
      · by_cases e2 : i = k
        · rw [if_pos (show k ≤ i ∧ k ≤ n - 1 - i by omega)]
          unfold upd
          rw [if_neg e, if_pos e2, e2]
        · rw [u1 i e e2, if_neg (show ¬ (k ≤ i ∧ k ≤ n - 1 - i) by omega)]
