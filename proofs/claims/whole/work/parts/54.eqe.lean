set_option maxRecDepth 100000 in
theorem pt_tab : ∀ (s t d : Fin 4) (k : Fin 16), fX7_add 0 0 (((nI s.val + 4) - nI t.val + nI d.val * nI k.val) - ((nI s.val + 4) - nI t.val + nI d.val * nI k.val) / 4 * 4) 1 = (fX6_partOfTurn ((nI s.val - nI t.val) + nI d.val * nI k.val) 0, fX6_partOfTurn ((nI s.val - nI t.val) + nI d.val * nI k.val) 1) := by decide +kernel
theorem add_lin (re ot q ti : Int32) : fX7_add re ot q ti = (re + (fX7_add 0 0 q ti).1, ot + (fX7_add 0 0 q ti).2) := by
  unfold fX7_add
  simp only [Int32.zero_add]
  repeat' split
  all_goals rfl
theorem looks_al {tr : Nat → Nat → Int32} {ln sn : Nat → Nat} {tu : Nat → Int32} (h : RS tr ln sn tu) {a b d : Nat} (ha : a < 6) (hb : b < 6) (hd : d < 4) (kk : Int32) : ∀ (r k : Nat) (re ot : Int32), k + r = ln a →
    F_X7_looks_13 sn tu a b kk (nI d) r k re ot = (F_X5_lookPart_6 (tr a) (tr b) (ln b) kk (nI d) 0 r k re * F_X5_lookPart_6 (tr a) (tr b) (ln b) kk (nI d) 0 r k re + F_X5_lookPart_6 (tr a) (tr b) (ln b) kk (nI d) 1 r k ot * F_X5_lookPart_6 (tr a) (tr b) (ln b) kk (nI d) 1 r k ot, F_X5_lookPart_6 (tr a) (tr b) (ln b) kk (nI d) 0 r k re, F_X5_lookPart_6 (tr a) (tr b) (ln b) kk (nI d) 1 r k ot) := by
  have hla := h.1 a ha
  have hlb := h.1 b hb
  intro r
  induction r with
  | zero => intro k re ot hk; rw [F_X7_looks_13, F_X5_lookPart_6, F_X5_lookPart_6]
  | succ r ih =>
    intro k re ot hk
    rw [F_X7_looks_13, F_X5_lookPart_6, F_X5_lookPart_6, h_in, hlb.1]
    rw [hlb.1] at ih
    by_cases c1 : fX7_in (nI k + kk) 0 (nI (sn b) - 1) = 0
    · rw [if_pos c1, if_pos c1, if_pos c1]
      exact ih (k + 1) re ot (by omega)
    · rw [if_neg c1, if_neg c1, if_neg c1]
      obtain ⟨j, hj, e1, e2⟩ := looks_ix (a := b) c1 (by omega)
      obtain ⟨s, hs, es⟩ := h.2.2 a k ha (by omega)
      obtain ⟨t, ht, et⟩ := h.2.2 b j hb (by omega)
      have q1 := h.2.1 a k ha (by omega)
      have q2 := h.2.1 b j hb (by omega)
      rw [e1, e2, nI_clamp (by omega), nI_clamp (by omega), ← q1, ← q2, es, et, add_lin, pt_tab ⟨s, hs⟩ ⟨t, ht⟩ ⟨d, hd⟩ ⟨k, by omega⟩]
      exact ih (k + 1) _ _ (by omega)
theorem e_looks {tr : Nat → Nat → Int32} {ln sn : Nat → Nat} {tu : Nat → Int32} (h : RS tr ln sn tu) {a b d : Nat} (ha : a < 6) (hb : b < 6) (hd : d < 4) (kk : Int32) :
    fX7_looks sn tu a b kk (nI d) = (fX5_lookPart (tr a) (ln a) (tr b) (ln b) kk (nI d) 0 * fX5_lookPart (tr a) (ln a) (tr b) (ln b) kk (nI d) 0 + fX5_lookPart (tr a) (ln a) (tr b) (ln b) kk (nI d) 1 * fX5_lookPart (tr a) (ln a) (tr b) (ln b) kk (nI d) 1, fX5_lookPart (tr a) (ln a) (tr b) (ln b) kk (nI d) 0, fX5_lookPart (tr a) (ln a) (tr b) (ln b) kk (nI d) 1) := by
  unfold fX7_looks fX5_lookPart
  rw [← (h.1 a ha).1]
  exact looks_al h ha hb hd kk (ln a - 0) 0 0 0 (by have := h.1 a ha; omega)
theorem e_own {tr : Nat → Nat → Int32} {ln sn : Nat → Nat} {tu : Nat → Int32} (h : RS tr ln sn tu) {a d : Nat} (ha : a < 6) (hd : d < 4) (kk : Int32) : (fX7_looks sn tu a a kk (nI d)).1 = fX5_ownLookSize (tr a) (ln a) kk (nI d) := by
  rw [e_looks h ha ha hd kk]
  rfl
theorem e_own0 {tr : Nat → Nat → Int32} {ln sn : Nat → Nat} {tu : Nat → Int32} (h : RS tr ln sn tu) {a : Nat} (ha : a < 6) (kk : Int32) : (fX7_looks sn tu a a kk 0).1 = fX5_ownLookSize (tr a) (ln a) kk 0 := e_own h ha (d := 0) (by omega) kk
theorem max_al {a x : Int32} : (if x < a then a else x) = (if a ≤ x then x else a) := by
  by_cases c : x < a
  · rw [if_pos c, if_neg (fun q => nlt_le.mpr q c)]
  · rw [if_neg c, if_pos (nlt_le.mp c)]
theorem F_peak_al {tr : Nat → Nat → Int32} {ln sn : Nat → Nat} {tu : Nat → Int32} (h : RS tr ln sn tu) {a : Nat} (ha : a < 6) : ∀ (r k : Nat) (x re ot : Int32), (F_X7_peakOf_4 sn tu a r k x re ot).1 = F_X5_greatestSide_4 (tr a) (ln a) r k x := by
  intro r
  induction r with
  | zero => intro k x re ot; rw [F_X7_peakOf_4, F_X5_greatestSide_4]
  | succ r ih =>
    intro k x re ot
    rw [F_X7_peakOf_4, F_X5_greatestSide_4, e_own0 h ha, max_al]
    by_cases c : fX5_ownLookSize (tr a) (ln a) (nI k) 0 ≤ x
    · rw [if_pos c, if_pos c]; exact ih _ _ _ _
    · rw [if_neg c, if_neg c]; exact ih _ _ _ _
theorem e_peakOf {tr : Nat → Nat → Int32} {ln sn : Nat → Nat} {tu : Nat → Int32} (h : RS tr ln sn tu) {a : Nat} (ha : a < 6) (re ot : Int32) : (fX7_peakOf sn tu re ot a).1 = fX5_greatestSide (tr a) (ln a) := by
  unfold fX7_peakOf fX5_greatestSide
  rw [F_peak_al h ha, (h.1 a ha).1]
theorem F_flank_al {tr : Nat → Nat → Int32} {ln sn : Nat → Nat} {tu : Nat → Int32} (h : RS tr ln sn tu) {a : Nat} (ha : a < 6) : ∀ (r k : Nat) (x re ot : Int32), (F_X7_flankOf_4 sn tu a r k x re ot).1 = F_X5_sumOfSides_4 (tr a) (ln a) r k x := by
  intro r
  induction r with
  | zero => intro k x re ot; rw [F_X7_flankOf_4, F_X5_sumOfSides_4]
  | succ r ih =>
    intro k x re ot
    rw [F_X7_flankOf_4, F_X5_sumOfSides_4, e_own0 h ha]
    exact ih _ _ _ _
theorem e_flankOf {tr : Nat → Nat → Int32} {ln sn : Nat → Nat} {tu : Nat → Int32} (h : RS tr ln sn tu) {a : Nat} (ha : a < 6) (re ot : Int32) : (fX7_flankOf sn tu re ot a).1 = fX5_sumOfSides (tr a) (ln a) := by
  unfold fX7_flankOf fX5_sumOfSides
  rw [F_flank_al h ha, (h.1 a ha).1]
theorem e_peak {tr : Nat → Nat → Int32} {ln sn : Nat → Nat} {tu : Nat → Int32} (h : RS tr ln sn tu) (re ot xc : Int32) : fX6_peak tr ln xc = (fX7_peak sn tu re ot xc).1 := by
  unfold fX6_peak fX7_peak
  rw [s_in]
  by_cases c1 : fX7_isSign xc = 0
  · rw [if_pos c1, if_pos c1]
  rw [if_neg c1, if_neg c1]
  obtain ⟨cn, hcn, rfl⟩ := sign_nat c1
  rw [nI_clamp (by omega), e_peakOf h (by omega)]
theorem e_flank {tr : Nat → Nat → Int32} {ln sn : Nat → Nat} {tu : Nat → Int32} (h : RS tr ln sn tu) (re ot xc : Int32) : fX6_flank tr ln xc = (fX7_flank sn tu re ot xc).1 := by
  unfold fX6_flank fX7_flank
  rw [s_in]
  by_cases c1 : fX7_isSign xc = 0
  · rw [if_pos c1, if_pos c1]
  rw [if_neg c1, if_neg c1]
  obtain ⟨cn, hcn, rfl⟩ := sign_nat c1
  rw [nI_clamp (by omega), e_flankOf h (by omega)]
