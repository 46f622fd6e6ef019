theorem e_clear {tr : Nat → Nat → Int32} {ln sn : Nat → Nat} {tu : Nat → Int32} (h : RS tr ln sn tu) {fl we : Nat → Int32} {fn fm : Nat} (hf : RF fl fn we fm) (re ot xc : Int32) : fX6_clear tr ln fl fn xc = (fX7_clear sn tu fm we re ot xc).1 := by
  unfold fX6_clear fX7_clear
  rw [s_in]
  by_cases c1 : fX7_isSign xc = 0
  · rw [if_pos c1, if_pos c1]
  rw [if_neg c1, if_neg c1]
  obtain ⟨a, ha, rfl⟩ := sign_nat c1
  rw [nI_clamp (by omega)]
  have ha : a < 6 := by omega
  have key : ∀ (r k : Nat) (x re ot : Int32), 0 ≤ x → (F_X7_clear_29 sn tu fm we a r k x re ot).1 = (if fX1_answerSize fl fn (tr a) (ln a) (fX1_greatestPlace fl fn (tr a) (ln a)) = 0 then 0 else F_X1_clearness_25 fl fn (tr a) (ln a) r k x) := by
    intro r
    induction r with
    | zero =>
      intro k x re ot hx
      rw [F_X7_clear_29, F_X1_clearness_25, e_gp h hf ha, e_answers h hf ha]
      dsimp only
      by_cases c2 : fX1_answerSize fl fn (tr a) (ln a) (fX1_greatestPlace fl fn (tr a) (ln a)) = 0
      · rw [if_pos c2, if_pos c2]
      · rw [if_neg c2, if_neg c2]
        by_cases c3 : x = 0
        · rw [if_pos c3, if_pos c3]
        · rw [if_neg c3, if_neg c3]
    | succ r ih =>
      intro k x re ot hx
      have up : ∀ y : Int32, ¬ y ≤ x → 0 ≤ y := by
        intro y hy
        rw [i32_le] at hx hy ⊢
        simp only [show (0 : Int32).toInt = 0 from rfl] at hx ⊢
        omega
      rw [F_X7_clear_29, F_X1_clearness_25, e_gp h hf ha, e_answers h hf ha, max_al]
      dsimp only
      by_cases c2 : nI k = fX1_greatestPlace fl fn (tr a) (ln a)
      · rw [if_pos c2, if_pos c2, if_pos hx]; exact ih _ _ _ _ hx
      · rw [if_neg c2, if_neg c2]
        by_cases c3 : fX1_answerSize fl fn (tr a) (ln a) (nI k) ≤ x
        · rw [if_pos c3, if_pos c3]; exact ih _ _ _ _ hx
        · rw [if_neg c3, if_neg c3]; exact ih _ _ _ _ (up _ c3)
  rw [key _ _ _ _ _ (by decide), ← (h.1 a ha).1, ← hf.1, Nat.add_comm (ln a) fn]
  rfl
theorem ans_far {fl tr : Nat → Int32} {n : Nat} (hn : n ≤ 16) {kk pt : Int32} (hk : 100 ≤ kk) : ∀ (r k : Nat) (x : Int32), k + r ≤ 24 → F_X1_answerPart_6 fl tr n kk pt r k x = x := by
  intro r
  induction r with
  | zero => intro k x h; rw [F_X1_answerPart_6]
  | succ r ih =>
    intro k x h
    rw [F_X1_answerPart_6, if_pos ?_]
    · exact ih _ _ (by omega)
    · rw [h_in]
      apply Classical.byContradiction
      intro q
      obtain ⟨j, hj, e⟩ := in_m1 q (by omega)
      rw [i32_le] at hk
      simp only [show (100 : Int32).toInt = 100 from rfl] at hk
      obtain ⟨K, hK, rfl⟩ := nI_of (x := kk) (by rw [i32_lt]; simp only [show (0 : Int32).toInt = 0 from rfl]; omega)
      rw [nI_toInt hK] at hk
      rw [pk_sub (by omega), nI_eq (by omega) (by omega)] at e
      omega
theorem e_answer {tr : Nat → Nat → Int32} {ln sn : Nat → Nat} {tu : Nat → Int32} (h : RS tr ln sn tu) {fl we : Nat → Int32} {fn fm : Nat} (hf : RF fl fn we fm) (re ot xc xk xp : Int32) : fX6_answer tr ln fl fn xc xk xp = (fX7_answer sn tu fm we re ot xc xk xp).1 := by
  unfold fX6_answer fX7_answer
  rw [s_in, p_in]
  by_cases c1 : fX7_isSign xc = 0
  · rw [if_pos c1, if_pos c1]
  rw [if_neg c1, if_neg c1]
  by_cases c2 : xk < 0
  · rw [if_pos c2, if_pos c2]
  rw [if_neg c2, if_neg c2]
  by_cases c3 : fX7_in xp 0 1 = 0
  · rw [if_pos c3, if_pos c3]
  rw [if_neg c3, if_neg c3]
  obtain ⟨a, ha, rfl⟩ := sign_nat c1
  obtain ⟨q, -, hq, rfl⟩ := in_nat (a := 0) (b := 1) c3 (by omega)
  have hl := h.1 a (by omega)
  have hfn := hf.2.1
  rw [nI_clamp (by omega), e_answers h hf (by omega), e_answers h hf (by omega)]
  dsimp only
  have far : ∀ pt : Int32, 100 ≤ xk → fX1_answerPart fl fn (tr a) (ln a) xk pt = fX1_answerPart fl fn (tr a) (ln a) 100 pt := by
    intro pt hk
    unfold fX1_answerPart
    rw [ans_far hl.2.2 hk _ _ _ (by omega), ans_far hl.2.2 (by decide) _ _ _ (by omega)]
  by_cases c4 : 100 ≤ xk
  · rw [if_pos c4, far _ c4]
    rcases (show q = 0 ∨ q = 1 by omega) with rfl | rfl
    · rw [if_pos (show nI 0 = 0 from rfl)]; rfl
    · rw [if_neg (show ¬ nI 1 = 0 by decide)]; rfl
  · rw [if_neg c4]
    rcases (show q = 0 ∨ q = 1 by omega) with rfl | rfl
    · rw [if_pos (show nI 0 = 0 from rfl)]; rfl
    · rw [if_neg (show ¬ nI 1 = 0 by decide)]; rfl
/-- a row filled from a place on by a function -/
def filF (f g : Nat → Int32) (a n : Nat) : Nat → Int32 := fun i => if a ≤ i ∧ i < a + n then g i else f i
theorem filF_0 (f g : Nat → Int32) (a : Nat) : filF f g a 0 = f := by
  funext i
  unfold filF
  rw [if_neg (by omega)]
theorem filF_s (f g : Nat → Int32) (a n : Nat) : filF (upd f a (g a)) g (a + 1) n = filF f g a (n + 1) := by
  funext i
  unfold filF upd
  by_cases h : i = a
  · subst h
    rw [if_neg (by omega), if_pos rfl, if_pos (by omega)]
  · by_cases h2 : a + 1 ≤ i ∧ i < a + 1 + n
    · rw [if_pos h2, if_pos (by omega)]
    · rw [if_neg h2, if_neg h, if_neg (by omega)]
theorem filF_in {f g : Nat → Int32} {a n i : Nat} (h1 : a ≤ i) (h2 : i < a + n) : filF f g a n i = g i := if_pos ⟨h1, h2⟩
theorem filF_out {f g : Nat → Int32} {a n i : Nat} (h : i < a ∨ a + n ≤ i) : filF f g a n i = f i := if_neg (by omega)
theorem F_match1 (tr : Nat → Int32) (n : Nat) : ∀ (r k : Nat) (fl : Nat → Int32), F_X1_matchTo_10 tr n r k fl = (n, filF fl (fun i => fX6_partOfTurn (-(tr (n - 1 - i))) 0) k r) := by
  intro r
  induction r with
  | zero => intro k fl; rw [F_X1_matchTo_10, filF_0]
  | succ r ih => intro k fl; rw [F_X1_matchTo_10, ih, ← filF_s]
def ownM (sn : Nat → Nat) (tu : Nat → Int32) (c i : Nat) : Int32 := if nI (sn c) ≤ nI i then 0 else if tu (16 * c + sn c - 1 - i) = 0 then 1 else if tu (16 * c + sn c - 1 - i) = 2 then -1 else 0
theorem F_own7 (sn : Nat → Nat) (tu : Nat → Int32) (c : Nat) : ∀ (r k : Nat) (we : Nat → Int32), F_X7_own_22 sn tu c r k we = (nI (sn c), sn c, filF we (ownM sn tu c) k r) := by
  intro r
  induction r with
  | zero => intro k we; rw [F_X7_own_22, filF_0]
  | succ r ih =>
    intro k we
    rw [F_X7_own_22, ← filF_s, if_neg (show ¬ (1 : Int32) = 0 by decide), if_neg (show ¬ (1 : Int32) = 2 by decide), ih, ih, ih]
    unfold ownM
    by_cases c1 : nI (sn c) ≤ nI k
    · rw [if_pos c1, if_pos c1]
    · rw [if_neg c1, if_neg c1]
      by_cases c2 : tu (16 * c + sn c - 1 - k) = 0
      · rw [if_pos c2, if_pos c2]
      · rw [if_neg c2, if_neg c2]
        by_cases c3 : tu (16 * c + sn c - 1 - k) = 2
        · rw [if_pos c3, if_pos c3]
        · rw [if_neg c3, if_neg c3]
theorem own_tab : ∀ t : Fin 4, fX6_partOfTurn (-(nI t.val)) 0 = (if nI t.val = 0 then 1 else if nI t.val = 2 then -1 else 0) := by decide
theorem e_own6 {tr : Nat → Nat → Int32} {ln sn : Nat → Nat} {tu : Nat → Int32} (h : RS tr ln sn tu) {fl we : Nat → Int32} {fn fm : Nat} (hf : RF fl fn we fm) (xc : Int32) :
    (fX6_own tr ln fl fn xc).1 = (fX7_own sn tu fm we xc).1 ∧ RF (fX6_own tr ln fl fn xc).2.1 (fX6_own tr ln fl fn xc).2.2 (fX7_own sn tu fm we xc).2.2 (fX7_own sn tu fm we xc).2.1 := by
  unfold fX6_own fX7_own
  rw [s_in]
  by_cases c1 : fX7_isSign xc = 0
  · rw [if_pos c1, if_pos c1]; exact ⟨rfl, hf⟩
  rw [if_neg c1, if_neg c1]
  obtain ⟨a, ha, rfl⟩ := sign_nat c1
  have ha : a < 6 := by omega
  have hl := h.1 a ha
  rw [nI_clamp (by omega), F_own7]
  unfold fX1_matchTo
  rw [F_match1]
  refine ⟨by rw [hl.1], hl.1, ⟨hl.2.1, Nat.le_trans hl.2.2 (by decide)⟩, fun j hj => ?_⟩
  have hj : j < ln a := hj
  show filF fl (fun i => fX6_partOfTurn (-(tr a (ln a - 1 - i))) 0) 0 (ln a - 0) j = filF we (ownM sn tu a) 0 (24 - 0) j
  rw [filF_in (by omega) (by omega), filF_in (by omega) (by omega)]
  unfold ownM
  obtain ⟨t, ht, et⟩ := h.2.2 a (ln a - 1 - j) ha (by omega)
  have q := h.2.1 a (ln a - 1 - j) ha (by omega)
  rw [if_neg (nI_ge (by omega) (by omega)), show 16 * a + sn a - 1 - j = 16 * a + (ln a - 1 - j) by omega, ← q, et]
  exact own_tab ⟨t, ht⟩
