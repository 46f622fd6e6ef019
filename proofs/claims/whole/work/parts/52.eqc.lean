/-- how far two numbers are, looked at from both sides -/
theorem abs_ab (x : Int32) : (if 0 ≤ -x then -x else -(-x)) = (if 0 ≤ x then x else 0 - x) := by
  have hx := Int32.le_toInt x
  have hx2 := Int32.toInt_lt x
  by_cases m : x = -2147483648
  · subst m; decide
  · have hn : (-x).toInt = -x.toInt := by
      rw [Int32.toInt_neg]
      have : x.toInt ≠ -2147483648 := fun q => m (by rw [← Int32.toInt_inj, q]; rfl)
      apply Int.bmod_eq_of_le <;> omega
    have a1 : 0 ≤ x ↔ 0 ≤ x.toInt := by rw [i32_le]; exact Iff.rfl
    have a2 : 0 ≤ -x ↔ 0 ≤ -x.toInt := by rw [i32_le, hn]; exact Iff.rfl
    by_cases h0 : x.toInt = 0
    · have : x = 0 := by rw [← Int32.toInt_inj, h0]; rfl
      subst this; decide
    · by_cases h1 : 0 ≤ x.toInt
      · rw [if_neg (fun q => by have := a2.mp q; omega), if_pos (a1.mpr h1), Int32.neg_neg]
      · rw [if_pos (a2.mpr (by omega)), if_neg (fun q => h1 (a1.mp q)), Int32.zero_sub]
theorem min_lt (er y p : Int32) : (er < (if p - y < y then p - y else y)) ↔ (er < y ∧ er < p - y) := by
  by_cases h : p - y < y
  · rw [if_pos h]
    rw [i32_lt] at h
    rw [i32_lt, i32_lt]
    omega
  · rw [if_neg h]
    rw [i32_lt] at h
    rw [i32_lt, i32_lt]
    omega
/-- one rest, as the reference counts it -/
def nearM (P ra r er : Int32) (off : Int32) : Prop := ra = -1 ∨ (er < (if 0 ≤ off then off else -off) ∧ er < P - (if 0 ≤ off then off else -off))
theorem near_iff {per : Nat → Int32} (rea : Nat → Int32) {i p : Nat} (h : per i = nI p) (h2 : 2 ≤ p) (h3 : p ≤ 60) (r er : Int32) : fX2_isNear per rea i r er = 0 ↔ nearM (nI p) (rea i) r er ((r - r / nI p * nI p) - rea i) := by
  unfold fX2_isNear nearM
  rw [fb_eq h h2 h3, h]
  have e : (r - r / nI p * nI p) - rea i = -(rea i - (r - r / nI p * nI p)) := by rw [Int32.neg_sub]
  rw [e, abs_ab]
  generalize (if 0 ≤ rea i - (r - r / nI p * nI p) then rea i - (r - r / nI p * nI p) else 0 - (rea i - (r - r / nI p * nI p))) = y
  by_cases c1 : rea i = -1
  · rw [if_pos c1]; exact ⟨fun _ => Or.inl c1, fun _ => rfl⟩
  · rw [if_neg c1]
    by_cases c2 : er < (if nI p - y < y then nI p - y else y)
    · rw [if_pos c2]; exact ⟨fun _ => Or.inr ((min_lt er y (nI p)).mp c2), fun _ => rfl⟩
    · rw [if_neg c2]
      refine ⟨fun q => absurd q (by decide), fun q => ?_⟩
      rcases q with q | q
      · exact absurd q c1
      · exact absurd ((min_lt er y (nI p)).mpr q) c2
theorem nlt_le {a b : Int32} : ¬ a < b ↔ b ≤ a := by
  rw [i32_lt, i32_le]
  omega
theorem F_fits_step (pm : Nat → Nat) (ra : Nat → Int32) (r er mm : Int32) (n k : Nat) (x : Int32) (hq : 2 ≤ pm k ∧ pm k ≤ 60) : F_X7_fits_6 pm ra r er mm (n + 1) k x = (if fX2_isNear (fun i => nI (pm i)) ra k r er = 0 then F_X7_fits_6 pm ra r er mm n (k + 1) x else F_X7_fits_6 pm ra r er mm n (k + 1) (x + 1)) := by
  rw [F_X7_fits_6]
  have hi := near_iff (per := fun i => nI (pm i)) ra (i := k) (p := pm k) rfl hq.1 hq.2 r er
  unfold nearM at hi
  generalize (r - r / nI (pm k) * nI (pm k)) - ra k = off at hi ⊢
  by_cases c1 : ra k = -1
  · rw [if_pos c1, if_pos (hi.mpr (Or.inl c1))]
  · rw [if_neg c1]
    by_cases c2 : 0 ≤ off
    · rw [if_pos c2]
      rw [if_pos c2] at hi
      by_cases c3 : off ≤ er
      · rw [if_pos c3, if_neg (fun q => by rcases hi.mp q with z | z; exact c1 z; exact nlt_le.mpr c3 z.1)]
      · rw [if_neg c3]
        have c3' : er < off := Classical.byContradiction (fun q => c3 (nlt_le.mp q))
        by_cases c4 : er < nI (pm k) - off
        · rw [if_pos c4, if_pos (hi.mpr (Or.inr ⟨c3', c4⟩)), Int32.add_zero]
        · rw [if_neg c4, if_neg (fun q => by rcases hi.mp q with z | z; exact c1 z; exact c4 z.2)]
    · rw [if_neg c2]
      rw [if_neg c2] at hi
      by_cases c3 : -off ≤ er
      · rw [if_pos c3, if_neg (fun q => by rcases hi.mp q with z | z; exact c1 z; exact nlt_le.mpr c3 z.1)]
      · rw [if_neg c3]
        have c3' : er < -off := Classical.byContradiction (fun q => c3 (nlt_le.mp q))
        by_cases c4 : er < nI (pm k) - -off
        · rw [if_pos c4, if_pos (hi.mpr (Or.inr ⟨c3', c4⟩)), Int32.add_zero]
        · rw [if_neg c4, if_neg (fun q => by rcases hi.mp q with z | z; exact c1 z; exact c4 z.2)]
theorem F_fits_al {per rea ra : Nat → Int32} {pm : Nat → Nat} {rn : Nat} (h1 : ∀ i, i < rn → per i = nI (pm i) ∧ rea i = ra i) (hq : ∀ i, i < rn → 2 ≤ pm i ∧ pm i ≤ 60) (r er mm : Int32) : ∀ (n k : Nat) (x : Int32), k + n = rn → F_X2_fits_6 per rea r er mm n k x = F_X7_fits_6 pm ra r er mm n k x := by
  intro n
  induction n with
  | zero => intro k x hk; rw [F_X2_fits_6, F_X7_fits_6]
  | succ n ih =>
    intro k x hk
    have e : fX2_isNear per rea k r er = fX2_isNear (fun i => nI (pm i)) ra k r er := by
      unfold fX2_isNear fX2_foldedBy
      rw [(h1 k (by omega)).1, (h1 k (by omega)).2]
    rw [F_fits_step _ _ _ _ _ _ _ _ (hq k (by omega)), F_X2_fits_6, e, ih (k + 1) x (by omega), ih (k + 1) (x + 1) (by omega)]
theorem e_fits {per rea ra : Nat → Int32} {pm : Nat → Nat} {rn rm : Nat} (h : RR per rea rn pm ra rm) (r er mm : Int32) : fX2_fits per rea rn r er mm = fX7_fits rm pm ra r er mm := by
  obtain ⟨rfl, hr, h1, h2, h3⟩ := h
  exact F_fits_al h1 h2 r er mm (rn - 0) 0 0 (by omega)
theorem e_unfold {per rea ra : Nat → Int32} {pm : Nat → Nat} {rn rm : Nat} (h : RR per rea rn pm ra rm) (er mm xs : Int32) : fX6_unfold per rea rn er mm xs = fX7_unfold rm pm ra er mm xs := by
  have key : ∀ (n k : Nat) (x : Int32), F_X2_fitting_6 per rea rn er mm n k x = F_X7_unfold_18 rm pm ra er mm n k x := by
    intro n
    induction n with
    | zero => intro k x; rw [F_X2_fitting_6, F_X7_unfold_18]
    | succ n ih => intro k x; rw [F_X2_fitting_6, F_X7_unfold_18, e_fits h, ih, ih, Int32.add_zero]
  show (if fX7_isAsked er mm xs = 0 then (-102) else fX2_fitting per rea rn er mm xs.toNatClampNeg) = _
  unfold fX7_unfold fX2_fitting
  rw [key]
theorem e_unfolded {per rea ra : Nat → Int32} {pm : Nat → Nat} {rn rm : Nat} (h : RR per rea rn pm ra rm) (er mm xs j : Int32) : fX6_unfolded per rea rn er mm xs j = fX7_unfolded rm pm ra er mm xs j := by
  have key : ∀ (n k : Nat) (x : Int32), F_X2_fittingAt_6 per rea rn er mm j n k x = F_X7_unfolded_18 rm pm ra er mm j n k x := by
    intro n
    induction n with
    | zero => intro k x; rw [F_X2_fittingAt_6, F_X7_unfolded_18]
    | succ n ih => intro k x; rw [F_X2_fittingAt_6, F_X7_unfolded_18, e_fits h, ih, ih]
  show (if fX7_isAsked er mm xs = 0 then (-102) else fX2_fittingAt per rea rn er mm xs.toNatClampNeg j) = _
  unfold fX7_unfolded fX2_fittingAt
  rw [key]
