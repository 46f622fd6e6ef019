theorem add_w {t : Nat} (ht : t < 4) (w : Int32) : fX7_add 0 0 (nI t) w = (w * fX6_partOfTurn (nI t) 0, w * fX6_partOfTurn (nI t) 1) := by
  rcases (show t = 0 ∨ t = 1 ∨ t = 2 ∨ t = 3 by omega) with rfl | rfl | rfl | rfl
  · rw [show fX6_partOfTurn (nI 0) 0 = 1 by decide, show fX6_partOfTurn (nI 0) 1 = 0 by decide, Int32.mul_one, Int32.mul_zero]
    unfold fX7_add
    rw [if_pos (show nI 0 = 0 by decide), if_neg (show ¬ nI 0 = 1 by decide), if_neg (show ¬ nI 0 = 3 by decide), Int32.zero_add, Int32.zero_add]
  · rw [show fX6_partOfTurn (nI 1) 0 = 0 by decide, show fX6_partOfTurn (nI 1) 1 = 1 by decide, Int32.mul_one, Int32.mul_zero]
    unfold fX7_add
    rw [if_neg (show ¬ nI 1 = 0 by decide), if_neg (show ¬ nI 1 = 2 by decide), if_pos (show nI 1 = 1 by decide), Int32.zero_add, Int32.zero_add]
  · rw [show fX6_partOfTurn (nI 2) 0 = -1 by decide, show fX6_partOfTurn (nI 2) 1 = 0 by decide, Int32.mul_neg, Int32.mul_one, Int32.mul_zero]
    unfold fX7_add
    rw [if_neg (show ¬ nI 2 = 0 by decide), if_pos (show nI 2 = 2 by decide), if_neg (show ¬ nI 2 = 1 by decide), if_neg (show ¬ nI 2 = 3 by decide), Int32.zero_add, Int32.zero_add]
  · rw [show fX6_partOfTurn (nI 3) 0 = 0 by decide, show fX6_partOfTurn (nI 3) 1 = -1 by decide, Int32.mul_neg, Int32.mul_one, Int32.mul_zero]
    unfold fX7_add
    rw [if_neg (show ¬ nI 3 = 0 by decide), if_neg (show ¬ nI 3 = 2 by decide), if_neg (show ¬ nI 3 = 1 by decide), if_pos (show nI 3 = 3 by decide), Int32.zero_add, Int32.zero_add]
theorem ans_al {tr : Nat → Nat → Int32} {ln sn : Nat → Nat} {tu : Nat → Int32} (h : RS tr ln sn tu) {fl we : Nat → Int32} {fn : Nat} (hf : ∀ j, j < fn → fl j = we j) {a : Nat} (ha : a < 6) (kk : Int32) : ∀ (r k : Nat) (re ot : Int32), k + r = fn →
    F_X7_answers_12 sn tu we a kk r k re ot = (F_X1_answerPart_6 fl (tr a) (ln a) kk 0 r k re * F_X1_answerPart_6 fl (tr a) (ln a) kk 0 r k re + F_X1_answerPart_6 fl (tr a) (ln a) kk 1 r k ot * F_X1_answerPart_6 fl (tr a) (ln a) kk 1 r k ot, F_X1_answerPart_6 fl (tr a) (ln a) kk 0 r k re, F_X1_answerPart_6 fl (tr a) (ln a) kk 1 r k ot) := by
  have hla := h.1 a ha
  intro r
  induction r with
  | zero => intro k re ot hk; rw [F_X7_answers_12, F_X1_answerPart_6, F_X1_answerPart_6]
  | succ r ih =>
    intro k re ot hk
    rw [F_X7_answers_12, F_X1_answerPart_6, F_X1_answerPart_6, h_in, hla.1]
    rw [hla.1] at ih
    by_cases c1 : fX7_in (kk - nI k) 0 (nI (sn a) - 1) = 0
    · rw [if_pos c1, if_pos c1, if_pos c1]
      exact ih (k + 1) re ot (by omega)
    · rw [if_neg c1, if_neg c1, if_neg c1]
      obtain ⟨j, hj, e1, e2⟩ := ans_ix (a := a) c1 (by omega)
      obtain ⟨t, ht, et⟩ := h.2.2 a j ha (by omega)
      have q2 := h.2.1 a j ha (by omega)
      rw [e1, e2, nI_clamp (by omega), nI_clamp (by omega), ← q2, et, add_lin, add_w ht, hf k (by omega)]
      exact ih (k + 1) _ _ (by omega)
theorem e_answers {tr : Nat → Nat → Int32} {ln sn : Nat → Nat} {tu : Nat → Int32} (h : RS tr ln sn tu) {fl we : Nat → Int32} {fn fm : Nat} (hf : RF fl fn we fm) {a : Nat} (ha : a < 6) (kk : Int32) :
    fX7_answers sn tu fm we a kk = (fX1_answerSize fl fn (tr a) (ln a) kk, fX1_answerPart fl fn (tr a) (ln a) kk 0, fX1_answerPart fl fn (tr a) (ln a) kk 1) := by
  obtain ⟨rfl, hf1, hf2⟩ := hf
  exact ans_al h hf2 ha kk (fn - 0) 0 0 0 (by omega)
theorem e_gp {tr : Nat → Nat → Int32} {ln sn : Nat → Nat} {tu : Nat → Int32} (h : RS tr ln sn tu) {fl we : Nat → Int32} {fn fm : Nat} (hf : RF fl fn we fm) {a : Nat} (ha : a < 6) (re ot : Int32) :
    (fX7_greatestOf sn tu fm we re ot a).1 = fX1_greatestPlace fl fn (tr a) (ln a) := by
  have key : ∀ (r k : Nat) (x y re ot : Int32), (F_X7_greatestOf_12 sn tu fm we a r k x y re ot).1 = F_X1_greatestPlace_12 fl fn (tr a) (ln a) r k x y := by
    intro r
    induction r with
    | zero => intro k x y re ot; rw [F_X7_greatestOf_12, F_X1_greatestPlace_12]
    | succ r ih =>
      intro k x y re ot
      rw [F_X7_greatestOf_12, F_X1_greatestPlace_12, e_answers h hf ha]
      by_cases c : fX1_answerSize fl fn (tr a) (ln a) (nI k) ≤ y
      · rw [if_pos c, if_pos c]; exact ih _ _ _ _ _
      · rw [if_neg c, if_neg c]; exact ih _ _ _ _ _
  unfold fX7_greatestOf fX1_greatestPlace
  rw [key, e_answers h hf ha, ← (h.1 a ha).1, ← hf.1, Nat.add_comm (ln a) fn]
theorem e_greatest {tr : Nat → Nat → Int32} {ln sn : Nat → Nat} {tu : Nat → Int32} (h : RS tr ln sn tu) {fl we : Nat → Int32} {fn fm : Nat} (hf : RF fl fn we fm) (re ot xc : Int32) : fX6_greatest tr ln fl fn xc = (fX7_greatest sn tu fm we re ot xc).1 := by
  unfold fX6_greatest fX7_greatest
  rw [s_in]
  by_cases c1 : fX7_isSign xc = 0
  · rw [if_pos c1, if_pos c1]
  rw [if_neg c1, if_neg c1]
  obtain ⟨cn, hcn, rfl⟩ := sign_nat c1
  rw [nI_clamp (by omega), e_gp h hf (by omega)]
