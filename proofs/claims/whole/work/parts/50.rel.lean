/-! The relation between the system's state and the reference's, and the calls that keep it (no machine here). -/
def RS (tr : Nat → Nat → Int32) (ln sn : Nat → Nat) (tu : Nat → Int32) : Prop :=
  (∀ c, c < 6 → ln c = sn c ∧ 1 ≤ ln c ∧ ln c ≤ 16) ∧ (∀ c i, c < 6 → i < ln c → tr c i = tu (16 * c + i)) ∧ (∀ c i, c < 6 → i < ln c → ∃ t, t < 4 ∧ tr c i = nI t)
def RF (fl : Nat → Int32) (fn : Nat) (we : Nat → Int32) (fm : Nat) : Prop := fn = fm ∧ (1 ≤ fn ∧ fn ≤ 24) ∧ ∀ j, j < fn → fl j = we j
def RR (per rea : Nat → Int32) (rn : Nat) (pm : Nat → Nat) (ra : Nat → Int32) (rm : Nat) : Prop :=
  rn = rm ∧ (1 ≤ rn ∧ rn ≤ 4) ∧ (∀ i, i < rn → per i = nI (pm i) ∧ rea i = ra i) ∧ (∀ i, i < rn → 2 ≤ pm i ∧ pm i ≤ 60) ∧ (∀ i, i < 4 → ∃ p, 2 ≤ p ∧ p ≤ 60 ∧ per i = nI p)
def RW (rw : Nat → Int32) (wn : Nat) (rm : Nat → Int32) (wm : Nat) : Prop := wn = wm ∧ wn ≤ 64 ∧ ∀ x, x < wn → rw x = rm x ∧ ∃ v, v ≤ 10000 ∧ rw x = nI v
/-- both sides' tests are one -/
theorem w_in (v lo hi : Int32) : fX6_within v lo hi = fX7_in v lo hi := rfl
theorem s_in (v : Int32) : fX6_isSign v = fX7_isSign v := rfl
theorem h_in (n : Nat) (i : Int32) : fX5_has n i = fX7_in i 0 (nI n - 1) := rfl
theorem p_in (v : Int32) : fX6_isPart v = fX7_in v 0 1 := rfl
/-- a row filled from a place on -/
def fil (f : Nat → Int32) (a n : Nat) (x : Int32) : Nat → Int32 := fun i => if a ≤ i ∧ i < a + n then x else f i
theorem fil_0 (f : Nat → Int32) (a : Nat) (x : Int32) : fil f a 0 x = f := by
  funext i
  unfold fil
  rw [if_neg (by omega)]
theorem fil_s (f : Nat → Int32) (a n : Nat) (x : Int32) : fil (upd f a x) (a + 1) n x = fil f a (n + 1) x := by
  funext i
  unfold fil upd
  by_cases h : i = a
  · subst h
    rw [if_neg (by omega), if_pos rfl, if_pos (by omega)]
  · by_cases h2 : a + 1 ≤ i ∧ i < a + 1 + n
    · rw [if_pos h2, if_pos (by omega)]
    · rw [if_neg h2, if_neg h, if_neg (by omega)]
theorem fil_in {f : Nat → Int32} {a n : Nat} {x : Int32} {i : Nat} (h1 : a ≤ i) (h2 : i < a + n) : fil f a n x i = x := if_pos ⟨h1, h2⟩
theorem fil_out {f : Nat → Int32} {a n : Nat} {x : Int32} {i : Nat} (h : i < a ∨ a + n ≤ i) : fil f a n x i = f i := if_neg (by omega)
theorem F_reset5 (n2 : Nat) : ∀ (r k : Nat) (tr : Nat → Int32), F_X5_reset_7 n2 r k tr = (n2, fil tr k r 0) := by
  intro r
  induction r with
  | zero => intro k tr; rw [F_X5_reset_7, fil_0]
  | succ r ih => intro k tr; rw [F_X5_reset_7, ih, fil_s]
theorem F_size7 (sn : Nat → Nat) (cn nn : Nat) : ∀ (r k : Nat) (tu : Nat → Int32), F_X7_size_32 sn cn nn r k tu = (nI nn, updN sn cn nn, fil tu (16 * cn + k) r 0) := by
  intro r
  induction r with
  | zero => intro k tu; rw [F_X7_size_32, fil_0]
  | succ r ih => intro k tu; rw [F_X7_size_32, ih, show 16 * cn + (k + 1) = 16 * cn + k + 1 by omega, fil_s]
theorem e_size {tr : Nat → Nat → Int32} {ln sn : Nat → Nat} {tu : Nat → Int32} (h : RS tr ln sn tu) (xc xn : Int32) :
    (fX6_size tr ln xc xn).1 = (fX7_size sn tu xc xn).1 ∧ RS (fX6_size tr ln xc xn).2.1 (fX6_size tr ln xc xn).2.2 (fX7_size sn tu xc xn).2.1 (fX7_size sn tu xc xn).2.2 := by
  unfold fX6_size fX7_size
  rw [s_in]
  by_cases c1 : fX7_isSign xc = 0
  · rw [if_pos c1, if_pos c1]; exact ⟨rfl, h⟩
  rw [if_neg c1, if_neg c1, w_in]
  by_cases c2 : fX7_in xn 1 16 = 0
  · rw [if_pos c2, if_pos c2]; exact ⟨rfl, h⟩
  rw [if_neg c2, if_neg c2]
  obtain ⟨cn, hcn, rfl⟩ := sign_nat c1
  obtain ⟨nn, h1, h2, rfl⟩ := in_nat (a := 1) (b := 16) c2 (by omega)
  rw [nI_clamp (by omega), nI_clamp (by omega), F_size7]
  unfold fX5_reset
  rw [F_reset5]
  refine ⟨rfl, ⟨fun c hc => ?_, fun c i hc hi => ?_, fun c i hc hi => ?_⟩⟩
  · show updN ln cn nn c = updN sn cn nn c ∧ 1 ≤ updN ln cn nn c ∧ updN ln cn nn c ≤ 16
    unfold updN
    by_cases e : c = cn
    · rw [if_pos e, if_pos e]; omega
    · rw [if_neg e, if_neg e]; exact h.1 c hc
  · show upR tr cn (fil (tr cn) 0 (nn - 0) 0) c i = fil tu (16 * cn + 0) (16 - 0) 0 (16 * c + i)
    have hi : i < updN ln cn nn c := hi
    unfold updN at hi
    unfold upR
    by_cases e : c = cn
    · subst e
      rw [if_pos rfl] at hi
      rw [if_pos rfl, fil_in (by omega) (by omega), fil_in (by omega) (by omega)]
    · rw [if_neg e] at hi
      have := (h.1 c hc).2.2
      rw [if_neg e, fil_out (by omega)]
      exact h.2.1 c i hc hi
  · have hi : i < updN ln cn nn c := hi
    show ∃ t, t < 4 ∧ upR tr cn (fil (tr cn) 0 (nn - 0) 0) c i = nI t
    unfold updN at hi
    unfold upR
    by_cases e : c = cn
    · subst e
      rw [if_pos rfl] at hi
      rw [if_pos rfl, fil_in (by omega) (by omega)]
      exact ⟨0, by omega, rfl⟩
    · rw [if_neg e] at hi
      rw [if_neg e]
      exact h.2.2 c i hc hi
theorem e_turned {tr : Nat → Nat → Int32} {ln sn : Nat → Nat} {tu : Nat → Int32} (h : RS tr ln sn tu) (xc xi : Int32) : fX6_turned tr ln xc xi = fX7_turned sn tu xc xi := by
  unfold fX6_turned fX7_turned
  rw [s_in]
  by_cases c1 : fX7_isSign xc = 0
  · rw [if_pos c1, if_pos c1]
  rw [if_neg c1, if_neg c1]
  obtain ⟨cn, hcn, rfl⟩ := sign_nat c1
  have hl := h.1 cn (by omega)
  rw [nI_clamp (by omega), h_in, hl.1]
  by_cases c2 : fX7_in xi 0 (nI (sn cn) - 1) = 0
  · rw [if_pos c2, if_pos c2]
  rw [if_neg c2, if_neg c2]
  obtain ⟨i, hi, rfl⟩ := in_m1 c2 (by omega)
  rw [nI_clamp (by omega)]
  exact h.2.1 cn i (by omega) (by omega)
theorem e_turn {tr : Nat → Nat → Int32} {ln sn : Nat → Nat} {tu : Nat → Int32} (h : RS tr ln sn tu) (xc xi xq : Int32) :
    (fX6_turn tr ln xc xi xq).1 = (fX7_turn sn tu xc xi xq).1 ∧ RS (fX6_turn tr ln xc xi xq).2 ln sn (fX7_turn sn tu xc xi xq).2 := by
  unfold fX6_turn fX7_turn
  rw [s_in]
  by_cases c1 : fX7_isSign xc = 0
  · rw [if_pos c1, if_pos c1]; exact ⟨rfl, h⟩
  rw [if_neg c1, if_neg c1]
  obtain ⟨cn, hcn, rfl⟩ := sign_nat c1
  have hl := h.1 cn (by omega)
  rw [nI_clamp (by omega), h_in, hl.1]
  by_cases c2 : fX7_in xi 0 (nI (sn cn) - 1) = 0
  · rw [if_pos c2, if_pos c2]; exact ⟨rfl, h⟩
  rw [if_neg c2, if_neg c2, w_in]
  by_cases c3 : fX7_in xq 0 3 = 0
  · rw [if_pos c3, if_pos c3]; exact ⟨rfl, h⟩
  rw [if_neg c3, if_neg c3]
  obtain ⟨i, hi, rfl⟩ := in_m1 c2 (by omega)
  obtain ⟨q, -, hq, rfl⟩ := in_nat (a := 0) (b := 3) c3 (by omega)
  rw [nI_clamp (by omega)]
  refine ⟨h.2.1 cn i (by omega) (by omega), h.1, fun c j hc hj => ?_, fun c j hc hj => ?_⟩
  · have := (h.1 c hc).2.2
    show upR tr cn (upd (tr cn) i (nI q)) c j = upd tu (16 * cn + i) (nI q) (16 * c + j)
    unfold upR upd
    by_cases e : c = cn
    · subst e
      rw [if_pos rfl]
      by_cases e2 : j = i
      · rw [if_pos e2, if_pos (by omega)]
      · rw [if_neg e2, if_neg (by omega)]
        exact h.2.1 c j hc hj
    · rw [if_neg e, if_neg (by omega)]
      exact h.2.1 c j hc hj
  · show ∃ t, t < 4 ∧ upR tr cn (upd (tr cn) i (nI q)) c j = nI t
    unfold upR upd
    by_cases e : c = cn
    · subst e
      rw [if_pos rfl]
      by_cases e2 : j = i
      · rw [if_pos e2]; exact ⟨q, by omega, rfl⟩
      · rw [if_neg e2]
        exact h.2.2 c j hc hj
    · rw [if_neg e]
      exact h.2.2 c j hc hj
