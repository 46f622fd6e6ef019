theorem F_bl35 {P : Nat → Nat} {xi : Int32} {rd rn a m : Nat} (h1 : 1 ≤ rd) (h2 : rd ≤ 3600) (hP : ∀ i, i < rn → P i ≤ 60) (hq : ∀ v, (∀ i, i < rn → bl P xi rd v i) ↔ rd ∣ v * gch rd P a m) : ∀ (r k : Nat), k + r = rd →
    F_X7_blind_35 rn P xi rd r k (nI (cnt (fun v => decide (rd ∣ v * gch rd P a m)) k)) = nI (cnt (fun v => decide (rd ∣ v * gch rd P a m)) (k + r)) := by
  intro r
  induction r with
  | zero => intro k hk; rw [F_X7_blind_35]; rfl
  | succ r ih =>
    intro k hk
    rw [F_X7_blind_35]
    obtain ⟨-, b1, b2⟩ := F_bl47 (P := P) (xi := xi) (rd := rd) (v := k) (by omega) h1 h2 (nI (cnt (fun v => decide (rd ∣ v * gch rd P a m)) k)) (fun z => F_X7_blind_35 rn P xi rd r (k + 1) z) (rn - 0) 0 (fun i _ b => hP i (by omega))
    rw [show k + (r + 1) = k + 1 + r by omega, ← ih (k + 1) (by omega)]
    by_cases c : rd ∣ k * gch rd P a m
    · rw [b1 (fun i _ b => (hq k).mpr c i (by omega)), nI_1]
      rw [cnt, if_pos (decide_eq_true c)]
    · rw [b2 (fun z => c ((hq k).mp (fun i hi => z i (by omega) (by omega)))), Int32.add_zero]
      rw [cnt, if_neg (fun z => c (of_decide_eq_true z))]
      rfl
theorem e_blind {per rea ra : Nat → Int32} {pm : Nat → Nat} {rn rm : Nat} (h : RR per rea rn pm ra rm) (xi xr : Int32) : fX6_blind per rn xi xr = fX7_blind rm pm xi xr := by
  obtain ⟨rfl, hr, g1, g2, g3⟩ := h
  unfold fX6_blind fX7_blind
  rw [w_in, r_in]
  by_cases c1 : xi = -1
  · rw [if_pos c1, if_pos c1]
    by_cases c2 : fX7_in xr 1 3600 = 0
    · rw [if_pos c2, if_pos c2]
    rw [if_neg c2, if_neg c2]
    obtain ⟨rd, h1, h2, rfl⟩ := in_nat (a := 1) (b := 3600) c2 (by omega)
    rw [nI_clamp (by omega)]
    have hq : ∀ v, (∀ i, i < rn → bl pm xi rd v i) ↔ rd ∣ v * gch rd pm 0 rn := by
      intro v
      rw [← gch_iff]
      constructor
      · intro z i hi; rw [Nat.zero_add]; exact z i hi (Or.inl c1)
      · intro z i hi _; have := z i hi; rw [Nat.zero_add] at this; exact this
    have e1 := F_bl35 h1 h2 (fun i hi => (g2 i hi).2) hq (rd - 0) 0 (by omega)
    have e2 := F_unseen (per := per) (R := rd) (by omega) h2 pm 0 rn 0 (fun i _ b => by rw [Nat.zero_add]; exact ⟨(g1 i (by omega)).1, (g2 i (by omega)).2⟩)
    unfold fX2_unseen
    rw [nI_l (by omega), show rn - 1 + 1 - 0 = rn by omega]
    rw [show (0 : Nat) + (rd - 0) = rd by omega, gch_cnt (by omega)] at e1
    rw [show 0 + rn = rn by omega] at e2
    exact e2.trans e1.symm
  · rw [if_neg c1, if_neg c1]
    by_cases c3 : fX7_isRest rn xi = 0
    · rw [if_pos c3, if_pos c3]
    rw [if_neg c3, if_neg c3]
    by_cases c2 : fX7_in xr 1 3600 = 0
    · rw [if_pos c2, if_pos c2]
    rw [if_neg c2, if_neg c2]
    obtain ⟨rd, h1, h2, rfl⟩ := in_nat (a := 1) (b := 3600) c2 (by omega)
    obtain ⟨ii, hii, rfl⟩ := in_m1 (n := rn) c3 (by omega)
    rw [nI_clamp (show rd < 2 ^ 31 by omega), nI_clamp (show ii < 2 ^ 31 by omega)]
    have hq : ∀ v, (∀ i, i < rn → bl pm (nI ii) rd v i) ↔ rd ∣ v * gch rd pm ii 1 := by
      intro v
      rw [← gch_iff]
      constructor
      · intro z i hi; rw [show ii + i = ii by omega]; exact z ii hii (Or.inr rfl)
      · intro z i hi y
        rcases y with y | y
        · exact absurd y c1
        · have : i = ii := (nI_eq (by omega) (by omega)).mp y
          subst this
          exact z 0 (by omega)
    have e1 := F_bl35 h1 h2 (fun i hi => (g2 i hi).2) hq (rd - 0) 0 (by omega)
    have e2 := F_unseen (per := per) (R := rd) (by omega) h2 pm ii 1 0 (fun i _ b => by rw [show ii + i = ii by omega]; exact ⟨(g1 ii hii).1, (g2 ii hii).2⟩)
    unfold fX2_unseen
    rw [nI_l (by omega), show ii + 1 - ii = 1 by omega]
    rw [show (0 : Nat) + (rd - 0) = rd by omega, gch_cnt (by omega)] at e1
    exact e2.trans e1.symm
