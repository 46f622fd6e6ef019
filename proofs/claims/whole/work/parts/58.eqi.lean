theorem lg_0 {b : Nat} (hb : b < 2 ^ 62) : lg_cmp (lN b) 0 = 0 ↔ b = 0 := by
  constructor
  · intro h0
    rcases Nat.eq_zero_or_pos b with e | e
    · exact e
    · exfalso
      have hne : ¬ lN b = lN 0 := by rw [pk_lEQ (by omega) (by omega)]; omega
      unfold lg_cmp at h0
      rw [show (0 : Int64) = lN 0 from rfl] at h0
      by_cases hg : lN b > lN 0
      · rw [if_pos hg] at h0; exact absurd h0 (by decide)
      · rw [if_neg hg, if_neg hne] at h0; exact absurd h0 (by decide)
  · intro e
    subst e
    rfl
theorem lg_1 {a : Nat} (h1 : 1 ≤ a) (ha : a < 2 ^ 62) : ¬ lg_cmp (lN a) 1 < 0 := by
  unfold lg_cmp
  rw [show (1 : Int64) = lN 1 from rfl]
  by_cases hg : lN a > lN 1
  · rw [if_pos hg]; decide
  · rw [if_neg hg]
    have : a = 1 := by
      rw [gt_iff_lt, pk_lLT (by omega) (by omega)] at hg
      omega
    subst this
    rw [if_pos rfl]; decide
theorem F_cd : ∀ (m a b k r : Nat), 1 ≤ a → a < 2 ^ 62 → b < 2 ^ 62 → b < 2 ^ m → 2 * m ≤ r → F_X6_commonDivisor_9 r k (lN a) (lN b) = lN (Nat.gcd b a) := by
  have z : ∀ (a k r : Nat), 1 ≤ a → a < 2 ^ 62 → F_X6_commonDivisor_9 r k (lN a) (lN 0) = lN a := by
    intro a k r h1 ha
    cases r with
    | zero => rw [F_X6_commonDivisor_9, if_neg (lg_1 h1 ha)]
    | succ r => rw [F_X6_commonDivisor_9, if_pos ((lg_0 (by omega)).mpr rfl), if_neg (lg_1 h1 ha)]
  intro m
  induction m with
  | zero =>
    intro a b k r h1 ha hb hm hr
    have : b = 0 := by omega
    subst this
    rw [z a k r h1 ha, Nat.gcd_zero_left]
  | succ m ih =>
    intro a b k r h1 ha hb hm hr
    by_cases b0 : b = 0
    · subst b0
      rw [z a k r h1 ha, Nat.gcd_zero_left]
    obtain ⟨r, rfl⟩ : ∃ q, r = q + 2 := ⟨r - 2, by omega⟩
    have hc := Nat.mod_lt a (show b > 0 by omega)
    rw [F_X6_commonDivisor_9, if_neg (fun q => b0 ((lg_0 hb).mp q)), pk_lRem (by omega) (by omega) (by omega), Nat.gcd_rec]
    by_cases c0 : a % b = 0
    · rw [c0, z b (k + 1) (r + 1) (by omega) hb, Nat.gcd_zero_left]
    · have hd := Nat.mod_lt b (show a % b > 0 by omega)
      have hlt : b % (a % b) < 2 ^ m := by
        have hb2 : b < 2 * 2 ^ m := by rw [Nat.pow_succ] at hm; omega
        have e := Nat.div_add_mod b (a % b)
        have hq : 1 ≤ b / (a % b) := Nat.div_pos (by omega) (by omega)
        have : (a % b) * 1 ≤ (a % b) * (b / (a % b)) := Nat.mul_le_mul_left _ hq
        omega
      rw [F_X6_commonDivisor_9, if_neg (fun q => c0 ((lg_0 (by omega)).mp q)), pk_lRem (by omega) (by omega) (by omega), Nat.gcd_rec]
      exact ih (a % b) (b % (a % b)) (k + 1 + 1) r (by omega) (by omega) (by omega) hlt (by omega)
theorem cd_gcd {a b : Nat} (h1 : 1 ≤ a) (ha : a < 2 ^ 62) (hb : b < 2 ^ 62) : fX6_commonDivisor (lN a) (lN b) = lN (Nat.gcd a b) := by
  unfold fX6_commonDivisor
  rw [F_cd 62 a b 0 (1000 - 0) h1 ha hb hb (by omega), Nat.gcd_comm]
theorem e_share (ab be : Int64) (xn xk xs xp : Int32) : fX6_share xn xk xs xp = (fX7_share ab be xn xk xs xp).1 := by
  unfold fX6_share fX7_share
  rw [w_in, p_in]
  by_cases c1 : fX7_in xn 1 8 = 0
  · rw [if_pos c1, if_pos ((ord_iff xn xk).mpr (Or.inl c1))]
  by_cases c2 : fX7_in xk 1 xn = 0
  · rw [if_neg c1, if_pos c2, if_pos ((ord_iff xn xk).mpr (Or.inr c2))]
  rw [if_neg c1, if_neg c2, if_neg (fun q => by rcases (ord_iff xn xk).mp q with z | z; exact c1 z; exact c2 z)]
  by_cases c3 : fX7_in xs 1 40 = 0
  · rw [if_pos c3, if_pos c3]
  rw [if_neg c3, if_neg c3]
  by_cases c4 : fX7_in xp 0 1 = 0
  · rw [if_pos c4, if_pos c4]
  rw [if_neg c4, if_neg c4]
  obtain ⟨n, hn1, hn, rfl⟩ := in_nat (a := 1) (b := 8) c1 (by omega)
  obtain ⟨k, hk1, hk, rfl⟩ := in_nat (a := 1) (b := n) c2 (by omega)
  obtain ⟨s, hs1, hs, rfl⟩ := in_nat (a := 1) (b := 40) c3 (by omega)
  rw [nI_clamp (show k < 2 ^ 31 by omega), nI_clamp (show n < 2 ^ 31 by omega), nI_clamp (show s < 2 ^ 31 by omega)]
  have e := (e_prod (nI n) k (nI s)).symm.trans (falses_eq hn hk hs)
  have e1 : fX0_product (nI n) k 0 = lN (pr n 0 k) := congrArg Prod.fst e
  have e2 : fX0_product (nI n) k (nI s) = lN (pr n s k) := congrArg Prod.snd e
  rw [e1, e2, falses_eq hn hk hs, cd_gcd (pr_pos k hk) (pr_62 hn (by omega) (by omega)) (pr_62 hn hs (by omega)), sh_gcd (pr_62 hn (by omega) (by omega)) (pr_62 hn hs (by omega))]
  by_cases c5 : xp = 0
  · rw [if_pos c5, if_pos c5]
  · rw [if_neg c5, if_neg c5]
