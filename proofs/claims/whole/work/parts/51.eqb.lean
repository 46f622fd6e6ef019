theorem F_reset1 (n2 : Nat) : ∀ (r k : Nat) (fl : Nat → Int32), F_X1_reset_7 n2 r k fl = (n2, fil fl k r 0) := by
  intro r
  induction r with
  | zero => intro k fl; rw [F_X1_reset_7, fil_0]
  | succ r ih => intro k fl; rw [F_X1_reset_7, ih, fil_s]
theorem F_filter7 (nn : Nat) : ∀ (r k : Nat) (we : Nat → Int32), F_X7_filter_20 nn r k we = (nI nn, nn, fil we k r 0) := by
  intro r
  induction r with
  | zero => intro k we; rw [F_X7_filter_20, fil_0]
  | succ r ih => intro k we; rw [F_X7_filter_20, ih, fil_s]
theorem e_filter {fl we : Nat → Int32} {fn fm : Nat} (h : RF fl fn we fm) (xn : Int32) :
    (fX6_filter fl fn xn).1 = (fX7_filter fm we xn).1 ∧ RF (fX6_filter fl fn xn).2.1 (fX6_filter fl fn xn).2.2 (fX7_filter fm we xn).2.2 (fX7_filter fm we xn).2.1 := by
  unfold fX6_filter fX7_filter
  rw [w_in]
  by_cases c1 : fX7_in xn 1 24 = 0
  · rw [if_pos c1, if_pos c1]; exact ⟨rfl, h⟩
  rw [if_neg c1, if_neg c1]
  obtain ⟨nn, h1, h2, rfl⟩ := in_nat (a := 1) (b := 24) c1 (by omega)
  rw [nI_clamp (by omega), F_filter7]
  unfold fX1_reset
  rw [F_reset1]
  refine ⟨rfl, rfl, ⟨h1, h2⟩, fun j hj => ?_⟩
  have hj : j < nn := hj
  show fil fl 0 (nn - 0) 0 j = fil we 0 (24 - 0) 0 j
  rw [fil_in (by omega) (by omega), fil_in (by omega) (by omega)]
theorem e_weight {fl we : Nat → Int32} {fn fm : Nat} (h : RF fl fn we fm) (xj xv : Int32) :
    (fX6_weight fl fn xj xv).1 = (fX7_weight fm we xj xv).1 ∧ RF (fX6_weight fl fn xj xv).2 fn (fX7_weight fm we xj xv).2 fm := by
  obtain ⟨rfl, hf, hw⟩ := id h
  unfold fX6_weight fX7_weight
  rw [w_in, w_in]
  by_cases c1 : fX7_in xj 0 (nI fn - 1) = 0
  · rw [if_pos c1, if_pos c1]; exact ⟨rfl, h⟩
  rw [if_neg c1, if_neg c1]
  by_cases c2 : fX7_in xv (-50) 50 = 0
  · rw [if_pos c2, if_pos c2]; exact ⟨rfl, h⟩
  rw [if_neg c2, if_neg c2]
  obtain ⟨j, hj, rfl⟩ := in_m1 c1 (by omega)
  rw [nI_clamp (by omega)]
  refine ⟨hw j hj, rfl, hf, fun i hi => ?_⟩
  show upd fl j xv i = upd we j xv i
  unfold upd
  by_cases e : i = j
  · rw [if_pos e, if_pos e]
  · rw [if_neg e, if_neg e]; exact hw i hi
theorem e_told {fn fm rn rm wn wm sr bs : Nat} (h1 : fn = fm) (h2 : rn = rm) (h3 : wn = wm) (h4 : sr = bs) (xw : Int32) : fX6_told fn rn wn sr xw = fX7_told fm rm wm bs xw := by
  subst h1; subst h2; subst h3; subst h4
  rfl
theorem e_empty {rw rm : Nat → Int32} {wn wm : Nat} (h : RW rw wn rm wm) : (fX6_empty wn).1 = (fX7_empty wm).1 ∧ RW rw (fX6_empty wn).2 rm (fX7_empty wm).2 := by
  obtain ⟨rfl, h1, h2⟩ := h
  exact ⟨rfl, rfl, Nat.zero_le _, fun x hx => absurd hx (Nat.not_lt_zero x)⟩
theorem e_put {rw rm : Nat → Int32} {wn wm : Nat} (h : RW rw wn rm wm) (xv : Int32) :
    (fX6_put rw wn xv).1 = (fX7_put wm rm xv).1 ∧ RW (fX6_put rw wn xv).2.2 (fX6_put rw wn xv).2.1 (fX7_put wm rm xv).2.2 (fX7_put wm rm xv).2.1 := by
  obtain ⟨rfl, h1, h2⟩ := id h
  unfold fX6_put fX7_put
  rw [w_in]
  by_cases c1 : fX7_in xv 0 10000 = 0
  · rw [if_pos c1, if_pos c1]; exact ⟨rfl, h⟩
  rw [if_neg c1, if_neg c1]
  obtain ⟨v, -, hv, rfl⟩ := in_nat (a := 0) (b := 10000) c1 (by omega)
  unfold fX3_append
  by_cases c2 : wn < 64
  · have d1 : nI wn < 64 := (nI_ltI (a := wn) (b := 64) (by omega) (by omega)).mpr c2
    have d2 : ¬ nI wn = 64 := fun e => by
      have := (nI_eq (a := wn) (b := 64) (by omega) (by omega)).mp e
      omega
    rw [if_pos d1, if_neg d2, if_neg (fun e => absurd (show (1 : Int32) = 0 from e) (by decide))]
    refine ⟨rfl, rfl, by show wn + 1 ≤ 64; omega, fun x hx => ?_⟩
    have hx : x < wn + 1 := hx
    show upd rw wn (nI v) x = upd rm wn (nI v) x ∧ ∃ v_1, v_1 ≤ 10000 ∧ upd rw wn (nI v) x = nI v_1
    unfold upd
    by_cases e : x = wn
    · rw [if_pos e, if_pos e]; exact ⟨rfl, v, hv, rfl⟩
    · rw [if_neg e, if_neg e]; exact h2 x (by omega)
  · have d1 : ¬ nI wn < 64 := fun e => c2 ((nI_ltI (a := wn) (b := 64) (by omega) (by omega)).mp e)
    have d2 : nI wn = 64 := by rw [show wn = 64 by omega]; rfl
    rw [if_neg d1, if_pos d2, if_pos rfl]
    exact ⟨rfl, h⟩
theorem F_reset2 (n2 : Nat) : ∀ (r k : Nat) (per rea : Nat → Int32), F_X2_reset_7 n2 r k per rea = (n2, fil per k r 2, fil rea k r (-1)) := by
  intro r
  induction r with
  | zero => intro k per rea; rw [F_X2_reset_7, fil_0, fil_0]
  | succ r ih => intro k per rea; rw [F_X2_reset_7, ih, fil_s, fil_s]
def filN (f : Nat → Nat) (a n x : Nat) : Nat → Nat := fun i => if a ≤ i ∧ i < a + n then x else f i
theorem filN_0 (f : Nat → Nat) (a x : Nat) : filN f a 0 x = f := by
  funext i
  unfold filN
  rw [if_neg (by omega)]
theorem filN_s (f : Nat → Nat) (a n x : Nat) : filN (updN f a x) (a + 1) n x = filN f a (n + 1) x := by
  funext i
  unfold filN updN
  by_cases h : i = a
  · subst h
    rw [if_neg (by omega), if_pos rfl, if_pos (by omega)]
  · by_cases h2 : a + 1 ≤ i ∧ i < a + 1 + n
    · rw [if_pos h2, if_pos (by omega)]
    · rw [if_neg h2, if_neg h, if_neg (by omega)]
theorem F_rests7 (nn : Nat) : ∀ (r k : Nat) (per : Nat → Nat) (rea : Nat → Int32), F_X7_rests_19 nn r k per rea = (nI nn, nn, filN per k r 2, fil rea k r (-1)) := by
  intro r
  induction r with
  | zero => intro k per rea; rw [F_X7_rests_19, filN_0, fil_0]
  | succ r ih => intro k per rea; rw [F_X7_rests_19, ih, filN_s, fil_s]
theorem e_rests {per rea ra : Nat → Int32} {pm : Nat → Nat} {rn rm : Nat} (h : RR per rea rn pm ra rm) (xn : Int32) :
    (fX6_rests per rea rn xn).1 = (fX7_rests rm pm ra xn).1 ∧ RR (fX6_rests per rea rn xn).2.2.1 (fX6_rests per rea rn xn).2.2.2 (fX6_rests per rea rn xn).2.1 (fX7_rests rm pm ra xn).2.2.1 (fX7_rests rm pm ra xn).2.2.2 (fX7_rests rm pm ra xn).2.1 := by
  unfold fX6_rests fX7_rests
  rw [w_in]
  by_cases c1 : fX7_in xn 1 4 = 0
  · rw [if_pos c1, if_pos c1]; exact ⟨rfl, h⟩
  rw [if_neg c1, if_neg c1]
  obtain ⟨nn, h1, h2, rfl⟩ := in_nat (a := 1) (b := 4) c1 (by omega)
  rw [nI_clamp (by omega), F_rests7]
  unfold fX2_reset
  rw [F_reset2]
  refine ⟨rfl, rfl, ⟨h1, h2⟩, fun i hi => ?_, fun i hi => ?_, fun i hi => ?_⟩
  · have hi : i < nn := hi
    show fil per 0 (4 - 0) 2 i = nI (filN pm 0 (nn - 0) 2 i) ∧ fil rea 0 (4 - 0) (-1) i = fil ra 0 (nn - 0) (-1) i
    rw [fil_in (by omega) (by omega), fil_in (by omega) (by omega), fil_in (by omega) (by omega)]
    unfold filN
    rw [if_pos (by omega)]
    exact ⟨rfl, rfl⟩
  · have hi : i < nn := hi
    show 2 ≤ filN pm 0 (nn - 0) 2 i ∧ filN pm 0 (nn - 0) 2 i ≤ 60
    unfold filN
    rw [if_pos (by omega)]
    omega
  · show ∃ p, 2 ≤ p ∧ p ≤ 60 ∧ fil per 0 (4 - 0) 2 i = nI p
    rw [fil_in (by omega) (by omega)]
    exact ⟨2, by omega, by omega, rfl⟩
theorem r_in (n : Nat) (i : Int32) : fX2_has n i = fX7_isRest n i := rfl
theorem e_rest {per rea ra : Nat → Int32} {pm : Nat → Nat} {rn rm : Nat} (h : RR per rea rn pm ra rm) (xi xp : Int32) :
    (fX6_rest per rea rn xi xp).1 = (fX7_rest rm pm ra xi xp).1 ∧ RR (fX6_rest per rea rn xi xp).2.1 (fX6_rest per rea rn xi xp).2.2 rn (fX7_rest rm pm ra xi xp).2.1 (fX7_rest rm pm ra xi xp).2.2 rm := by
  obtain ⟨rfl, hr, h1, h2, h3⟩ := id h
  unfold fX6_rest fX7_rest
  rw [r_in, w_in]
  by_cases c1 : fX7_isRest rn xi = 0
  · rw [if_pos c1, if_pos c1]; exact ⟨rfl, h⟩
  rw [if_neg c1, if_neg c1]
  by_cases c2 : fX7_in xp 2 60 = 0
  · rw [if_pos c2, if_pos c2]; exact ⟨rfl, h⟩
  rw [if_neg c2, if_neg c2]
  obtain ⟨i, hi, rfl⟩ := in_m1 (n := rn) c1 (by omega)
  obtain ⟨p, hp1, hp2, rfl⟩ := in_nat (a := 2) (b := 60) c2 (by omega)
  rw [nI_clamp (by omega), nI_clamp (by omega)]
  refine ⟨(h1 i hi).1, rfl, hr, fun j hj => ?_, fun j hj => ?_, fun j hj => ?_⟩
  · show upd per i (nI p) j = nI (updN pm i p j) ∧ upd rea i (-1) j = upd ra i (-1) j
    unfold upd updN
    by_cases e : j = i
    · rw [if_pos e, if_pos e, if_pos e, if_pos e]; exact ⟨rfl, rfl⟩
    · rw [if_neg e, if_neg e, if_neg e, if_neg e]; exact h1 j hj
  · show 2 ≤ updN pm i p j ∧ updN pm i p j ≤ 60
    unfold updN
    by_cases e : j = i
    · rw [if_pos e]; omega
    · rw [if_neg e]; exact h2 j hj
  · show ∃ p_1, 2 ≤ p_1 ∧ p_1 ≤ 60 ∧ upd per i (nI p) j = nI p_1
    unfold upd
    by_cases e : j = i
    · rw [if_pos e]; exact ⟨p, hp1, hp2, rfl⟩
    · rw [if_neg e]; exact h3 j hj
theorem e_read {per rea ra : Nat → Int32} {pm : Nat → Nat} {rn rm : Nat} (h : RR per rea rn pm ra rm) (xi xv : Int32) :
    (fX6_read per rea rn xi xv).1 = (fX7_read rm pm ra xi xv).1 ∧ RR per (fX6_read per rea rn xi xv).2 rn pm (fX7_read rm pm ra xi xv).2 rm := by
  obtain ⟨rfl, hr, h1, h2, h3⟩ := id h
  unfold fX6_read fX7_read
  rw [r_in]
  by_cases c1 : fX7_isRest rn xi = 0
  · rw [if_pos c1, if_pos c1]; exact ⟨rfl, h⟩
  rw [if_neg c1, if_neg c1]
  obtain ⟨i, hi, rfl⟩ := in_m1 (n := rn) c1 (by omega)
  rw [nI_clamp (by omega), (h1 i hi).1, w_in]
  have hp := h2 i hi
  have keep : RR per (upd rea i xv) rn pm (upd ra i xv) rn := by
    refine ⟨rfl, hr, fun j hj => ⟨(h1 j hj).1, ?_⟩, h2, h3⟩
    unfold upd
    by_cases e : j = i
    · rw [if_pos e, if_pos e]
    · rw [if_neg e, if_neg e]; exact (h1 j hj).2
  have key : (xv = -1 ∨ ¬ fX7_in xv 0 (nI (pm i) - 1) = 0) ↔ ¬ fX7_in xv (-1) (nI (pm i) - 1) = 0 := by
    rw [in_iff, in_iff, ← Int32.toInt_inj, i32_le, i32_le, i32_le, nI_m1_toInt (by omega)]
    simp only [show (0 : Int32).toInt = 0 from rfl, show (-1 : Int32).toInt = -1 from rfl]
    omega
  by_cases c2 : xv = -1
  · rw [if_pos c2, if_neg (key.mp (Or.inl c2))]
    exact ⟨(h1 i hi).2, keep⟩
  · rw [if_neg c2]
    by_cases c3 : fX7_in xv 0 (nI (pm i) - 1) = 0
    · have c4 : fX7_in xv (-1) (nI (pm i) - 1) = 0 := by
        apply Classical.byContradiction
        intro e
        rcases key.mpr e with q | q
        · exact c2 q
        · exact q c3
      rw [if_pos c3, if_pos c4]
      exact ⟨rfl, h⟩
    · rw [if_neg c3, if_neg (key.mp (Or.inr c3))]
      exact ⟨(h1 i hi).2, keep⟩
/-- rows alike below a bound stay so, when like numbers are put -/
theorem upd_al {f g : Nat → Int32} {n k : Nat} {x : Int32} (h : ∀ i, i < n → f i = g i) : ∀ i, i < n → upd f k x i = upd g k x i := by
  intro i hi
  unfold upd
  by_cases e : i = k
  · rw [if_pos e, if_pos e]
  · rw [if_neg e, if_neg e]; exact h i hi
/-- a rest that is 2 or more folds as it stands -/
theorem fb_eq {per : Nat → Int32} {i p : Nat} (h : per i = nI p) (h2 : 2 ≤ p) (h3 : p ≤ 60) (r : Int32) : fX2_foldedBy per i r = r - r / nI p * nI p := by
  unfold fX2_foldedBy
  have d : ¬ nI p < 2 := fun e => absurd ((nI_ltI (a := p) (b := 2) (by omega) (by omega)).mp e) (by omega)
  rw [h, if_neg d]
theorem F_fold_al {per ra : Nat → Int32} {pm : Nat → Nat} {rn : Nat} {xr : Int32} (hp : ∀ i, i < rn → per i = nI (pm i)) (hq : ∀ i, i < rn → 2 ≤ pm i ∧ pm i ≤ 60) : ∀ (r k : Nat) (rea ra : Nat → Int32), k + r = rn → (∀ i, i < rn → rea i = ra i) →
    (F_X7_fold_15 rn pm xr r k ra).1 = nI rn ∧ ∀ i, i < rn → F_X2_readAll_2 per xr r k rea i = (F_X7_fold_15 rn pm xr r k ra).2 i := by
  intro r
  induction r with
  | zero => intro k rea ra hk h; rw [F_X7_fold_15, F_X2_readAll_2]; exact ⟨rfl, h⟩
  | succ r ih =>
    intro k rea ra hk h
    rw [F_X7_fold_15, F_X2_readAll_2, fb_eq (hp k (by omega)) (hq k (by omega)).1 (hq k (by omega)).2]
    exact ih (k + 1) _ _ (by omega) (upd_al h)
theorem e_fold {per rea ra : Nat → Int32} {pm : Nat → Nat} {rn rm : Nat} (h : RR per rea rn pm ra rm) (xr : Int32) :
    (fX6_fold per rea rn xr).1 = (fX7_fold rm pm ra xr).1 ∧ RR per (fX6_fold per rea rn xr).2 rn pm (fX7_fold rm pm ra xr).2 rm := by
  obtain ⟨rfl, hr, h1, h2, h3⟩ := id h
  unfold fX6_fold fX7_fold
  rw [w_in]
  by_cases c1 : fX7_in xr 0 1000000 = 0
  · rw [if_pos c1, if_pos c1]; exact ⟨rfl, h⟩
  rw [if_neg c1, if_neg c1]
  obtain ⟨a, b⟩ := F_fold_al (per := per) (ra := ra) (pm := pm) (rn := rn) (xr := xr) (fun i hi => (h1 i hi).1) h2 (rn - 0) 0 rea ra (by omega) (fun i hi => (h1 i hi).2)
  exact ⟨a.symm, rfl, hr, fun i hi => ⟨(h1 i hi).1, b i hi⟩, h2, h3⟩
