theorem e_look {tr : Nat → Nat → Int32} {ln sn : Nat → Nat} {tu : Nat → Int32} (h : RS tr ln sn tu) (re ot xa xb xk xd xp : Int32) : fX6_look tr ln xa xb xk xd xp = (fX7_look sn tu re ot xa xb xk xd xp).1 := by
  unfold fX6_look fX7_look
  rw [s_in, s_in, w_in, w_in, p_in]
  by_cases c1 : fX7_isSign xa = 0
  · rw [if_pos c1, if_pos c1]
  rw [if_neg c1, if_neg c1]
  by_cases c2 : fX7_isSign xb = 0
  · rw [if_pos c2, if_pos c2]
  rw [if_neg c2, if_neg c2]
  by_cases c3 : fX7_in xk (-15) 15 = 0
  · rw [if_pos c3, if_pos c3]
  rw [if_neg c3, if_neg c3]
  by_cases c4 : fX7_in xd 0 3 = 0
  · rw [if_pos c4, if_pos c4]
  rw [if_neg c4, if_neg c4]
  by_cases c5 : fX7_in xp 0 1 = 0
  · rw [if_pos c5, if_pos c5]
  rw [if_neg c5, if_neg c5]
  obtain ⟨a, ha, rfl⟩ := sign_nat c1
  obtain ⟨b, hb, rfl⟩ := sign_nat c2
  obtain ⟨d, -, hd, rfl⟩ := in_nat (a := 0) (b := 3) c4 (by omega)
  obtain ⟨q, -, hq, rfl⟩ := in_nat (a := 0) (b := 1) c5 (by omega)
  rw [nI_clamp (by omega), nI_clamp (by omega), e_looks h (by omega) (by omega) (by omega)]
  rcases (show q = 0 ∨ q = 1 by omega) with rfl | rfl
  · rw [if_pos (show nI 0 = 0 from rfl)]; rfl
  · rw [if_neg (show ¬ nI 1 = 0 by decide)]; rfl
theorem F_worst_in {tr : Nat → Nat → Int32} {ln sn : Nat → Nat} {tu : Nat → Int32} (h : RS tr ln sn tu) {a : Nat} (ha : a < 6) (k5 : Nat) (K7 : Int32 → Int32 → Int32 → Int32 × Int32 × Int32) (K5 : Int32 → Int32) (hK : ∀ x re ot, 0 ≤ x → (K7 x re ot).1 = K5 x) : ∀ (r k : Nat) (x re ot : Int32), k + r = 4 → 0 ≤ x →
    (F_X7_worst_24 sn tu a k5 K7 r k x re ot).1 = F_X5_greatestOwnLook_13 (tr a) (ln a) k5 K5 r k x := by
  intro r
  induction r with
  | zero => intro k x re ot hk hx; rw [F_X7_worst_24, F_X5_greatestOwnLook_13]; exact hK x re ot hx
  | succ r ih =>
    intro k x re ot hk hx
    have up : ∀ y : Int32, ¬ y ≤ x → 0 ≤ y := by
      intro y hy
      rw [i32_le] at hx hy ⊢
      simp only [show (0 : Int32).toInt = 0 from rfl] at hx ⊢
      omega
    rw [F_X7_worst_24, F_X5_greatestOwnLook_13, e_own h ha (d := k) (by omega), max_al]
    by_cases c1 : nI k5 - 15 = 0
    · rw [if_pos c1, if_pos c1]
      by_cases c2 : nI k = 0
      · rw [if_pos c2, if_pos c2, if_pos hx]
        exact ih _ _ _ _ (by omega) hx
      · rw [if_neg c2, if_neg c2]
        by_cases c3 : fX5_ownLookSize (tr a) (ln a) (nI k5 - 15) (nI k) ≤ x
        · rw [if_pos c3, if_pos c3]; exact ih _ _ _ _ (by omega) hx
        · rw [if_neg c3, if_neg c3]; exact ih _ _ _ _ (by omega) (up _ c3)
    · rw [if_neg c1, if_neg c1]
      by_cases c3 : fX5_ownLookSize (tr a) (ln a) (nI k5 - 15) (nI k) ≤ x
      · rw [if_pos c3, if_pos c3]; exact ih _ _ _ _ (by omega) hx
      · rw [if_neg c3, if_neg c3]; exact ih _ _ _ _ (by omega) (up _ c3)
theorem F_worst_al {tr : Nat → Nat → Int32} {ln sn : Nat → Nat} {tu : Nat → Int32} (h : RS tr ln sn tu) {a : Nat} (ha : a < 6) : ∀ (r k : Nat) (x re ot : Int32), 0 ≤ x → (F_X7_worst_15 sn tu a r k x re ot).1 = F_X5_greatestOwnLook_5 (tr a) (ln a) r k x := by
  intro r
  induction r with
  | zero => intro k x re ot hx; rw [F_X7_worst_15, F_X5_greatestOwnLook_5]
  | succ r ih =>
    intro k x re ot hx
    rw [F_X7_worst_15, F_X5_greatestOwnLook_5]
    exact F_worst_in h ha k _ _ (fun y re ot hy => ih (k + 1) y re ot hy) (4 - 0) 0 x re ot (by omega) hx
theorem e_worst {tr : Nat → Nat → Int32} {ln sn : Nat → Nat} {tu : Nat → Int32} (h : RS tr ln sn tu) (re ot xc : Int32) : fX6_worst tr ln xc = (fX7_worst sn tu re ot xc).1 := by
  unfold fX6_worst fX7_worst
  rw [s_in]
  by_cases c1 : fX7_isSign xc = 0
  · rw [if_pos c1, if_pos c1]
  rw [if_neg c1, if_neg c1]
  obtain ⟨cn, hcn, rfl⟩ := sign_nat c1
  rw [nI_clamp (by omega), F_worst_al h (by omega) _ _ _ _ _ (by decide)]
  rfl
theorem F_pair_0 (sn : Nat → Nat) (tu : Nat → Int32) (a b : Nat) : ∀ (r k : Nat) (re ot : Int32), (F_X7_pair_39 sn tu a b r k 0 re ot).1 = 0 := by
  intro r k re ot
  cases r with
  | zero => rw [F_X7_pair_39, if_pos rfl]
  | succ r => rw [F_X7_pair_39, if_pos rfl, if_pos rfl]
theorem F_pair_al {tr : Nat → Nat → Int32} {ln sn : Nat → Nat} {tu : Nat → Int32} (h : RS tr ln sn tu) {a b : Nat} (ha : a < 6) (hb : b < 6) : ∀ (r k : Nat) (re ot : Int32), (F_X7_pair_39 sn tu a b r k 1 re ot).1 = (if F_X5_sidesGoOutWith_15 (tr a) (ln a) (tr b) (ln b) r k = 0 then 0 else 1) := by
  intro r
  induction r with
  | zero => intro k re ot; rw [F_X7_pair_39, F_X5_sidesGoOutWith_15, if_neg (by decide), if_neg (by decide)]
  | succ r ih =>
    intro k re ot
    rw [F_X7_pair_39, F_X5_sidesGoOutWith_15, if_neg (by decide)]
    have e1 := e_looks h ha ha (d := 0) (by omega) (nI k)
    have e2 := e_looks h hb hb (d := 0) (by omega) (nI k)
    have z : nI 0 = 0 := rfl
    rw [z] at e1 e2
    rw [e1, e2]
    show _ = (if F_X5_sidesGoOutWith_25 (tr a) (ln a) (tr b) (ln b) k (fun _ => F_X5_sidesGoOutWith_15 (tr a) (ln a) (tr b) (ln b) r (k + 1)) (1 + 1) 0 = 0 then 0 else 1)
    rw [F_X5_sidesGoOutWith_25, F_X5_sidesGoOutWith_25, F_X5_sidesGoOutWith_25, z, show nI (0 + 1) = 1 from rfl]
    dsimp only
    by_cases c1 : fX5_lookPart (tr a) (ln a) (tr a) (ln a) (nI k) 0 0 + fX5_lookPart (tr b) (ln b) (tr b) (ln b) (nI k) 0 0 = 0
    · rw [if_pos c1, if_pos c1]
      by_cases c2 : fX5_lookPart (tr a) (ln a) (tr a) (ln a) (nI k) 0 1 + fX5_lookPart (tr b) (ln b) (tr b) (ln b) (nI k) 0 1 = 0
      · rw [if_pos c2, if_pos c2]; exact ih _ _ _
      · rw [if_neg c2, if_neg c2, F_pair_0, if_pos rfl]
    · rw [if_neg c1, if_neg c1, F_pair_0, if_pos rfl]
theorem e_pair {tr : Nat → Nat → Int32} {ln sn : Nat → Nat} {tu : Nat → Int32} (h : RS tr ln sn tu) (re ot xa xb : Int32) : fX6_pair tr ln xa xb = (fX7_pair sn tu re ot xa xb).1 := by
  unfold fX6_pair fX7_pair
  rw [s_in, s_in]
  by_cases c1 : fX7_isSign xa = 0
  · rw [if_pos c1, if_pos c1]
  rw [if_neg c1, if_neg c1]
  by_cases c2 : fX7_isSign xb = 0
  · rw [if_pos c2, if_pos c2]
  rw [if_neg c2, if_neg c2]
  obtain ⟨a, ha, rfl⟩ := sign_nat c1
  obtain ⟨b, hb, rfl⟩ := sign_nat c2
  have la := h.1 a (by omega)
  have lb := h.1 b (by omega)
  rw [nI_clamp (by omega), nI_clamp (by omega)]
  unfold fX5_sidesGoOutWith
  rw [← la.1, ← lb.1]
  by_cases c3 : nI (ln a) = nI (ln b)
  · rw [if_pos c3, if_pos c3, F_pair_al h (by omega) (by omega)]
  · rw [if_neg c3, if_neg c3, if_pos rfl]
