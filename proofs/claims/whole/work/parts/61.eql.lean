theorem upR_at (f : Nat → Nat → Int32) (a : Nat) (r : Nat → Int32) : upR f a r a = r := if_pos rfl
theorem cs_eq (tr : Nat → Int32) (n : Nat) : fX5_copy_same tr n = (n, tr) := F_copys n (n - 0) 0 tr
theorem cp_eq (tr tr2 : Nat → Int32) (n : Nat) : fX5_copy tr tr2 n = (n, filF tr tr2 0 (n - 0)) := F_copy5 tr2 n (n - 0) 0 tr
theorem made_fin {tr : Nat → Nat → Int32} {ln sn : Nat → Nat} {tu : Nat → Int32} (h : RS tr ln sn tu) {a c : Nat} (ha : a < 6) (hc : c < 6) {xs : Int32} {cp row0 row : Nat → Int32} (hrow : ∀ i, i < ln a → row i = gm sn tu xs a i) :
    RS (upR (upR tr c row0) c row) (updN (updN ln c (ln a)) c (ln a)) (updN sn c (sn a)) (filF tu (gl sn (filF cp (gm sn tu xs a) 0 (sn a - 0)) a c) (16 * c + 0) (16 - 0)) := by
  refine made_keep h ha (fun q _ => ?_) (fun q hq => ?_) (fun i hi => ?_) (fun q i hq hi => ?_)
  · unfold updN
    by_cases e : q = c
    · rw [if_pos e, if_pos e]
    · rw [if_neg e, if_neg e]
  · unfold upR
    rw [if_neg hq, if_neg hq]
  · rw [upR_at]
    refine ⟨made_row h ha hc hrow i hi, ?_⟩
    rw [hrow i hi]
    exact gm_range h ha xs hi
  · exact filF_out (by omega)
theorem rev_row {tr : Nat → Nat → Int32} {ln sn : Nat → Nat} {tu : Nat → Int32} (h : RS tr ln sn tu) {a : Nat} (ha : a < 6) {row0 : Nat → Int32} (h0 : ∀ i, i < ln a → row0 i = tr a i) : ∀ i, i < ln a → fX5_reverse row0 (ln a) i = gm sn tu 0 a i := by
  intro i hi
  have hla := h.1 a ha
  unfold fX5_reverse
  rw [F_rev5 (ln a) _ 0 row0 i (by omega) hi, if_pos (by omega), h0 _ (by omega), h.2.1 a _ ha (by omega), hla.1]
  rfl
theorem mir_row {tr : Nat → Nat → Int32} {ln sn : Nat → Nat} {tu : Nat → Int32} (h : RS tr ln sn tu) {a : Nat} (ha : a < 6) {row0 : Nat → Int32} (h0 : ∀ i, i < ln a → row0 i = tr a i) : ∀ i, i < ln a → fX5_mirror row0 (ln a) i = gm sn tu 1 a i := by
  intro i hi
  obtain ⟨t, ht, et⟩ := h.2.2 a i ha hi
  have q := h.2.1 a i ha hi
  unfold fX5_mirror
  rw [F_mirror5, filF_in (by omega) (by omega), h0 i hi]
  unfold gm
  rw [if_neg (show ¬ (1 : Int32) = 0 by decide), if_pos rfl, ← q, et]
  exact (mir_tab ⟨t, ht⟩).1
theorem adv_row {tr : Nat → Nat → Int32} {ln sn : Nat → Nat} {tu : Nat → Int32} (h : RS tr ln sn tu) {a : Nat} (ha : a < 6) {xs : Int32} (x0 : ¬ xs = 0) (x1 : ¬ xs = 1) {row0 : Nat → Int32} (h0 : ∀ i, i < ln a → row0 i = tr a i) : ∀ i, i < ln a → fX5_advance row0 (ln a) i = gm sn tu xs a i := by
  intro i hi
  obtain ⟨t, ht, et⟩ := h.2.2 a i ha hi
  have q := h.2.1 a i ha hi
  unfold fX5_advance
  rw [F_adv5, filF_in (by omega) (by omega), h0 i hi]
  unfold gm
  rw [if_neg x0, if_neg x1, ← q, et]
  exact (adv_tab ⟨t, ht⟩).1
theorem e_made {tr : Nat → Nat → Int32} {ln sn : Nat → Nat} {tu : Nat → Int32} (h : RS tr ln sn tu) (cp : Nat → Int32) (xc xa xs : Int32) :
    (fX6_made tr ln xc xa xs).1 = (fX7_made sn tu cp xc xa xs).1 ∧ RS (fX6_made tr ln xc xa xs).2.1 (fX6_made tr ln xc xa xs).2.2 (fX7_made sn tu cp xc xa xs).2.1 (fX7_made sn tu cp xc xa xs).2.2.1 := by
  unfold fX6_made fX7_made
  rw [s_in, s_in, w_in]
  by_cases c1 : fX7_isSign xa = 0
  · rw [if_pos c1, if_pos c1]; exact ⟨rfl, h⟩
  rw [if_neg c1, if_neg c1]
  by_cases c2 : fX7_isSign xc = 0
  · rw [if_pos c2, if_pos c2]; exact ⟨rfl, h⟩
  rw [if_neg c2, if_neg c2]
  by_cases c3 : fX7_in xs 0 2 = 0
  · rw [if_pos c3, if_pos c3]; exact ⟨rfl, h⟩
  rw [if_neg c3, if_neg c3]
  obtain ⟨a, ha, rfl⟩ := sign_nat c1
  obtain ⟨c, hc, rfl⟩ := sign_nat c2
  have ha : a < 6 := by omega
  have hc : c < 6 := by omega
  have hla := h.1 a ha
  rw [nI_clamp (show a < 2 ^ 31 by omega), nI_clamp (show c < 2 ^ 31 by omega), F_m40, F_m128]
  by_cases e : c = a
  · subst e
    rw [if_pos rfl]
    simp only [cs_eq, updN_at, upR_at]
    have h0 : ∀ i, i < ln c → tr c i = tr c i := fun _ _ => rfl
    by_cases x0 : xs = 0
    · subst x0
      rw [if_pos rfl]
      exact ⟨by rw [← hla.1], made_fin h hc hc (rev_row h hc h0)⟩
    · rw [if_neg x0]
      by_cases x1 : xs = 1
      · subst x1
        rw [if_pos rfl]
        exact ⟨by rw [← hla.1], made_fin h hc hc (mir_row h hc h0)⟩
      · rw [if_neg x1]
        exact ⟨by rw [← hla.1], made_fin h hc hc (adv_row h hc x0 x1 h0)⟩
  · rw [if_neg e]
    simp only [cp_eq, updN_at, upR_at]
    have h0 : ∀ i, i < ln a → filF (tr c) (tr a) 0 (ln a - 0) i = tr a i := fun i hi => filF_in (by omega) (by omega)
    by_cases x0 : xs = 0
    · subst x0
      rw [if_pos rfl]
      exact ⟨by rw [← hla.1], made_fin h ha hc (rev_row h ha h0)⟩
    · rw [if_neg x0]
      by_cases x1 : xs = 1
      · subst x1
        rw [if_pos rfl]
        exact ⟨by rw [← hla.1], made_fin h ha hc (mir_row h ha h0)⟩
      · rw [if_neg x1]
        exact ⟨by rw [← hla.1], made_fin h ha hc (adv_row h ha x0 x1 h0)⟩
