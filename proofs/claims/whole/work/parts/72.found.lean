/-! found and count: neighbours in order by insertion, against ranks by counting. -/
def cn (f : Nat → Nat) : Nat → Nat
  | 0 => 0
  | n + 1 => cn f n + f n
theorem cn_congr {f g : Nat → Nat} : ∀ {n : Nat}, (∀ i, i < n → f i = g i) → cn f n = cn g n
  | 0, _ => rfl
  | n + 1, h => by
    show cn f n + f n = cn g n + g n
    rw [cn_congr (fun i hi => h i (by omega)), h n (by omega)]
theorem cn_add {f g : Nat → Nat} : ∀ {n : Nat}, cn (fun i => f i + g i) n = cn f n + cn g n
  | 0 => rfl
  | n + 1 => by
    show cn (fun i => f i + g i) n + (f n + g n) = (cn f n + f n) + (cn g n + g n)
    rw [cn_add]; omega
theorem cn_zero {f : Nat → Nat} : ∀ {n : Nat}, (∀ i, i < n → f i = 0) → cn f n = 0
  | 0, _ => rfl
  | n + 1, h => by
    show cn f n + f n = 0
    rw [cn_zero (fun i hi => h i (by omega)), h n (by omega)]
theorem cn_pt {a c : Nat} : ∀ {n : Nat}, cn (fun i => if i = a then c else 0) n = if a < n then c else 0
  | 0 => by rw [if_neg (by omega)]; rfl
  | n + 1 => by
    show cn (fun i => if i = a then c else 0) n + (if n = a then c else 0) = _
    rw [cn_pt]
    by_cases h : n = a
    · rw [if_pos h, if_neg (by omega), if_pos (by omega)]; omega
    · rw [if_neg h]
      by_cases h2 : a < n
      · rw [if_pos h2, if_pos (by omega)]; omega
      · rw [if_neg h2, if_neg (by omega)]
theorem cn_le {f g : Nat → Nat} : ∀ {n : Nat}, (∀ i, i < n → f i ≤ g i) → cn f n ≤ cn g n
  | 0, _ => Nat.le_refl _
  | n + 1, h => by
    show cn f n + f n ≤ cn g n + g n
    have h1 := cn_le (n := n) (fun i hi => h i (by omega))
    have h2 := h n (by omega)
    omega
theorem cn_cap {f : Nat → Nat} {t : Nat} : ∀ {n : Nat}, (∀ i, i < n → f i ≤ 1) → (∀ i, t ≤ i → i < n → f i = 0) → cn f n ≤ t
  | 0, _, _ => Nat.zero_le _
  | n + 1, h, h2 => by
    show cn f n + f n ≤ t
    by_cases q : t ≤ n
    · have a := cn_cap (n := n) (fun i hi => h i (by omega)) (fun i a b => h2 i a (by omega))
      have b := h2 n q (by omega)
      omega
    · have a : cn f n ≤ n := cn_cap (t := n) (n := n) (fun i hi => h i (by omega)) (fun i a b => by omega)
      have b := h n (by omega)
      omega
theorem cn_floor {f : Nat → Nat} {t : Nat} : ∀ {n : Nat}, t ≤ n → (∀ i, i < t → f i = 1) → t ≤ cn f n
  | 0, a, _ => by
    show t ≤ 0
    exact a
  | n + 1, a, h => by
    show t ≤ cn f n + f n
    by_cases q : t ≤ n
    · have := cn_floor (n := n) q h
      omega
    · have : n ≤ cn f n := cn_floor (t := n) (n := n) (by omega) (fun i hi => h i (by omega))
      have b := h n (by omega)
      omega
theorem cn_cut {f : Nat → Nat} {y : Nat} : ∀ {n : Nat}, y ≤ n → cn (fun z => if z < y then f z else 0) n = cn f y
  | 0, a => by
    have : y = 0 := by omega
    subst this
    rfl
  | n + 1, a => by
    by_cases q : y = n + 1
    · subst q
      exact cn_congr (fun i hi => if_pos hi)
    · show cn (fun z => if z < y then f z else 0) n + (if n < y then f n else 0) = cn f y
      rw [cn_cut (by omega), if_neg (by omega)]
      rfl
theorem cn_mid {f : Nat → Nat} {c t : Nat} : ∀ {n : Nat}, (∀ i, i < n → f i ≤ 1) → c ≤ t → t < c + cn f n → ∃ y, y < n ∧ c + cn f y = t ∧ f y = 1
  | 0, _, h1, h2 => by
    have : t < c + 0 := h2
    omega
  | n + 1, h, h1, h2 => by
    have h2 : t < c + (cn f n + f n) := h2
    have hn := h n (by omega)
    by_cases q : t < c + cn f n
    · obtain ⟨y, a, b, d⟩ := cn_mid (n := n) (fun i hi => h i (by omega)) h1 q
      exact ⟨y, by omega, b, d⟩
    · exact ⟨n, by omega, by omega, by omega⟩
def ins (od : Nat → Int32) (j : Nat) (v : Int32) : Nat → Int32 := fun i => if i < j then od i else if i = j then v else od (i - 1)
theorem F_ins (v : Int32) : ∀ (k : Nat) (od : Nat → Int32), ∃ j, j ≤ k ∧ (∀ i, i ≤ k → F_X3_insert_2 v k k od i = ins od j v i) ∧ (∀ i, k < i → F_X3_insert_2 v k k od i = od i) ∧ (0 < j → od (j - 1) ≤ v) ∧ (∀ i, j ≤ i → i < k → ¬ od i ≤ v) := by
  intro k
  induction k with
  | zero =>
    intro od
    refine ⟨0, Nat.le_refl _, fun i hi => ?_, fun i hi => ?_, fun q => absurd q (by omega), fun i _ q => absurd q (by omega)⟩
    · have : i = 0 := by omega
      subst this
      rw [F_X3_insert_2]
      unfold upd ins
      rw [if_pos rfl, if_neg (by omega)]
    · rw [F_X3_insert_2]
      unfold upd
      rw [if_neg (by omega)]
  | succ k ih =>
    intro od
    rw [F_X3_insert_2, show k + 1 - 1 = k from rfl]
    by_cases c : od k ≤ v
    · rw [if_pos c]
      refine ⟨k + 1, Nat.le_refl _, fun i hi => ?_, fun i hi => ?_, fun _ => c, fun i a b => absurd b (by omega)⟩
      · unfold upd ins
        by_cases q : i = k + 1
        · rw [if_pos q, if_neg (by omega), if_pos q]
        · rw [if_neg q, if_pos (by omega)]
      · unfold upd
        rw [if_neg (by omega)]
    · rw [if_neg c]
      obtain ⟨j, hj, a1, a2, a3, a4⟩ := ih (upd od (k + 1) (od k))
      have hu : ∀ i, i ≤ k → upd od (k + 1) (od k) i = od i := fun i hi => by unfold upd; rw [if_neg (by omega)]
      refine ⟨j, by omega, fun i hi => ?_, fun i hi => ?_, fun q => ?_, fun i b1 b2 => ?_⟩
      · by_cases q : i ≤ k
        · rw [a1 i q]
          unfold ins
          by_cases q1 : i < j
          · rw [if_pos q1, if_pos q1, hu i q]
          · rw [if_neg q1, if_neg q1, hu (i - 1) (by omega)]
        · have : i = k + 1 := by omega
          subst this
          rw [a2 (k + 1) (by omega)]
          unfold upd ins
          rw [if_pos rfl, if_neg (by omega), if_neg (by omega)]
          rfl
      · rw [a2 i (by omega)]
        unfold upd
        rw [if_neg (by omega)]
      · have := a3 q
        rw [hu (j - 1) (by omega)] at this
        exact this
      · by_cases q : i = k
        · rw [q]; exact c
        · have := a4 i b1 (by omega)
          rw [hu i (by omega)] at this
          exact this
theorem i_tr {a b c : Int32} (h1 : a ≤ b) (h2 : b ≤ c) : a ≤ c := by
  rw [i32_le] at *
  omega
theorem i_nle {a b : Int32} (h : ¬ a ≤ b) : b ≤ a := by
  rw [i32_le] at *
  omega
theorem i_an {a b : Int32} (h1 : a ≤ b) (h2 : ¬ a < b) : a = b := by
  rw [i32_le] at h1
  rw [i32_lt] at h2
  exact Int32.toInt_inj.mp (by omega)
/-- the first m of a row are in order, and as many of each as C says -/
def St (od : Nat → Int32) (m : Nat) (C : (Int32 → Nat) → Nat) : Prop := (∀ i j, i ≤ j → j < m → od i ≤ od j) ∧ ∀ Q : Int32 → Nat, cn (fun i => Q (od i)) m = C Q
theorem ins_cn (od : Nat → Int32) (j : Nat) (v : Int32) (Q : Int32 → Nat) : ∀ t : Nat, cn (fun i => Q (ins od j v i)) (j + t + 1) = cn (fun i => Q (od i)) (j + t) + Q v
  | 0 => by
    show cn (fun i => Q (ins od j v i)) j + Q (ins od j v j) = cn (fun i => Q (od i)) j + Q v
    rw [cn_congr (f := fun i => Q (ins od j v i)) (g := fun i => Q (od i)) (fun i hi => by show Q (ins od j v i) = Q (od i); unfold ins; rw [if_pos hi])]
    unfold ins
    rw [if_neg (by omega), if_pos rfl]
  | t + 1 => by
    have ih := ins_cn od j v Q t
    show cn (fun i => Q (ins od j v i)) (j + t + 1) + Q (ins od j v (j + t + 1)) = cn (fun i => Q (od i)) (j + t) + Q (od (j + t)) + Q v
    rw [ih]
    have : ins od j v (j + t + 1) = od (j + t) := by
      unfold ins
      rw [if_neg (by omega), if_neg (by omega)]
      rfl
    rw [this]
    omega
theorem St_ins {od : Nat → Int32} {m : Nat} {C : (Int32 → Nat) → Nat} (h : St od m C) (v : Int32) : St (fX3_insert od v m) (m + 1) (fun Q => C Q + Q v) := by
  obtain ⟨j, hj, a1, a2, a3, a4⟩ := F_ins v m od
  refine ⟨fun a b hab hb => ?_, fun Q => ?_⟩
  · show F_X3_insert_2 v m m od a ≤ F_X3_insert_2 v m m od b
    rw [a1 a (by omega), a1 b (by omega)]
    unfold ins
    by_cases p1 : a < j
    · rw [if_pos p1]
      by_cases p2 : b < j
      · rw [if_pos p2]; exact h.1 a b hab (by omega)
      · rw [if_neg p2]
        by_cases p3 : b = j
        · rw [if_pos p3]
          exact i_tr (h.1 a (j - 1) (by omega) (by omega)) (a3 (by omega))
        · rw [if_neg p3]
          exact h.1 a (b - 1) (by omega) (by omega)
    · rw [if_neg p1, if_neg (show ¬ b < j by omega)]
      by_cases p2 : a = j
      · rw [if_pos p2]
        by_cases p3 : b = j
        · rw [if_pos p3]; rw [i32_le]; omega
        · rw [if_neg p3]
          exact i_nle (a4 (b - 1) (by omega) (by omega))
      · rw [if_neg p2, if_neg (show ¬ b = j by omega)]
        exact h.1 (a - 1) (b - 1) (by omega) (by omega)
  · show cn (fun i => Q (F_X3_insert_2 v m m od i)) (m + 1) = C Q + Q v
    rw [cn_congr (f := fun i => Q (F_X3_insert_2 v m m od i)) (g := fun i => Q (ins od j v i)) (fun i hi => by show Q _ = Q _; rw [a1 i (by omega)])]
    have := ins_cn od j v Q (m - j)
    rw [show j + (m - j) = m by omega] at this
    rw [this, h.2 Q]
/-- y is beside x, at a distance from g + 1 on, below d -/
abbrev nb (x g d y : Nat) : Prop := (y + (g + 1) ≤ x ∧ x < y + d) ∨ (x + (g + 1) ≤ y ∧ y < x + d)
def nC (rw : Nat → Int32) (wn x g d : Nat) (Q : Int32 → Nat) : Nat := cn (fun y => if nb x g d y then Q (rw y) else 0) wn
theorem nC_step {rw : Nat → Int32} {wn x g d : Nat} (hd : g + 1 ≤ d) (hx : x < wn) (Q : Int32 → Nat) : nC rw wn x g (d + 1) Q = nC rw wn x g d Q + (if d ≤ x then Q (rw (x - d)) else 0) + (if x + d < wn then Q (rw (x + d)) else 0) := by
  have e : nC rw wn x g (d + 1) Q = cn (fun y => ((if nb x g d y then Q (rw y) else 0) + (if y = x - d then (if d ≤ x then Q (rw (x - d)) else 0) else 0)) + (if y = x + d then Q (rw (x + d)) else 0)) wn := by
    refine cn_congr (fun y hy => ?_)
    show (if nb x g (d + 1) y then Q (rw y) else 0) = ((if nb x g d y then Q (rw y) else 0) + (if y = x - d then (if d ≤ x then Q (rw (x - d)) else 0) else 0)) + (if y = x + d then Q (rw (x + d)) else 0)
    unfold nb
    by_cases p1 : y = x + d
    · rw [if_pos (by omega), if_neg (by omega), if_neg (by omega), if_pos p1, p1]; omega
    · rw [if_neg p1]
      by_cases p2 : y = x - d
      · rw [if_pos p2]
        by_cases p3 : d ≤ x
        · rw [if_pos p3, if_pos (by omega), if_neg (by omega), p2]; omega
        · rw [if_neg p3]
          by_cases p4 : (y + (g + 1) ≤ x ∧ x < y + d) ∨ (x + (g + 1) ≤ y ∧ y < x + d)
          · rw [if_pos (by omega), if_pos p4]; omega
          · rw [if_neg (by omega), if_neg p4]
      · rw [if_neg p2]
        by_cases p4 : (y + (g + 1) ≤ x ∧ x < y + d) ∨ (x + (g + 1) ≤ y ∧ y < x + d)
        · rw [if_pos (by omega), if_pos p4]; omega
        · rw [if_neg (by omega), if_neg p4]
  rw [e, cn_add, cn_add, cn_pt, cn_pt, if_pos (show x - d < wn by omega)]
  rfl
theorem sub_neg {a b : Nat} (ha : a < 2 ^ 30) (hb : b < 2 ^ 30) : nI a - nI b < 0 ↔ a < b := by
  rw [i32_lt, pk_sub_toInt ha hb]
  have : (0 : Int32).toInt = 0 := rfl
  omega
theorem F_ord {rw : Nat → Int32} {wn x g : Nat} (hx : x < wn) (hw : wn ≤ 64) : ∀ (r d m : Nat) (od : Nat → Int32), g + 1 ≤ d → d + r ≤ 1000 → St od m (nC rw wn x g d) → ∃ (m' : Nat) (od' : Nat → Int32), F_X3_orderNeighbours_8 rw wn x r d m od = (nI m', od') ∧ St od' m' (nC rw wn x g (d + r)) := by
  intro r
  induction r with
  | zero => intro d m od h1 h2 h; exact ⟨m, od, by rw [F_X3_orderNeighbours_8], h⟩
  | succ r ih =>
    intro d m od h1 h2 h
    have hs := fun Q => nC_step (rw := rw) (wn := wn) (x := x) (g := g) (d := d) h1 hx Q
    rw [F_X3_orderNeighbours_8, nI_add, show d + (r + 1) = (d + 1) + r by omega]
    by_cases c1 : x < d
    · rw [if_pos ((sub_neg (by omega) (by omega)).mpr c1)]
      by_cases c2 : wn ≤ x + d
      · rw [if_pos ((nI_leI (by omega) (by omega)).mpr c2)]
        refine ih (d + 1) m od (by omega) (by omega) ⟨h.1, fun Q => ?_⟩
        rw [hs Q, if_neg (by omega), if_neg (by omega), h.2 Q]; omega
      · rw [if_neg (fun q => c2 ((nI_leI (by omega) (by omega)).mp q))]
        have h' := St_ins h (rw (x + d))
        refine ih (d + 1) (m + 1) _ (by omega) (by omega) ⟨h'.1, fun Q => ?_⟩
        rw [hs Q, if_neg (by omega), if_pos (by omega), h'.2 Q, Nat.add_zero]
    · rw [if_neg (fun q => c1 ((sub_neg (by omega) (by omega)).mp q))]
      by_cases c2 : wn ≤ x + d
      · rw [if_pos ((nI_leI (by omega) (by omega)).mpr c2)]
        have h' := St_ins h (rw (x - d))
        refine ih (d + 1) (m + 1) _ (by omega) (by omega) ⟨h'.1, fun Q => ?_⟩
        rw [hs Q, if_pos (by omega), if_neg (by omega), h'.2 Q, Nat.add_zero]
      · rw [if_neg (fun q => c2 ((nI_leI (by omega) (by omega)).mp q))]
        have h' := St_ins (St_ins h (rw (x - d))) (rw (x + d))
        refine ih (d + 1) (m + 1 + 1) _ (by omega) (by omega) ⟨h'.1, fun Q => ?_⟩
        rw [hs Q, if_pos (by omega), if_pos (by omega), h'.2 Q]
theorem near_nb {x y w g : Nat} (hx : x < 1000) (hy : y < 1000) (hw : w < 1000) (hg : g < 1000) : fX7_isNear (nI x) (nI y) (nI w) (nI g) = 0 ↔ ¬ nb x g (g + w + 1) y := by
  have key : ∀ a : Nat, a < 1000 → (fX7_in (nI a) (nI g + 1) (nI g + nI w) = 0 ↔ ¬ (g + 1 ≤ a ∧ a ≤ g + w)) := by
    intro a ha
    rw [nI_1, nI_add]
    constructor
    · intro q1 q2
      exact (in_iff.mpr ⟨(nI_leI (by omega) (by omega)).mpr q2.1, (nI_leI (by omega) (by omega)).mpr q2.2⟩) q1
    · intro q1
      refine Classical.byContradiction fun q2 => q1 ?_
      have := in_iff.mp q2
      exact ⟨(nI_leI (by omega) (by omega)).mp this.1, (nI_leI (by omega) (by omega)).mp this.2⟩
  unfold fX7_isNear nb
  by_cases c : y ≤ x
  · rw [if_pos ((nI_leI (by omega) (by omega)).mpr c), pk_sub c, key (x - y) (by omega)]
    omega
  · rw [if_neg (fun q => c ((nI_leI (by omega) (by omega)).mp q)), pk_sub (by omega), key (y - x) (by omega)]
    omega
def rk (rw : Nat → Int32) (x g d y : Nat) : Nat → Nat := fun z => if nb x g d z then (if rw z < rw y then 1 else (if rw z = rw y then (if z < y then 1 else 0) else 0)) else 0
theorem rk_1 (rw : Nat → Int32) (x g d y z : Nat) : rk rw x g d y z ≤ 1 := by
  unfold rk
  repeat' split
  all_goals omega
theorem F_l30 {rw : Nat → Int32} {wn x w g k y : Nat} (hw : wn ≤ 64) (hx : x < wn) (hy : y < wn) (hW : w ≤ 8) (hG : g ≤ 3) (hk : 1 ≤ k) (hk2 : k ≤ 8) (K : Unit → Int32) : ∀ (r z : Nat), z + r = wn →
    F_X7_least_30 rw (nI x) (nI w) (nI g) (nI k) y K r z (nI (cn (rk rw x g (g + w + 1) y) z)) = if cn (rk rw x g (g + w + 1) y) wn = k - 1 then rw y else K () := by
  have hb : cn (rk rw x g (g + w + 1) y) wn ≤ wn := cn_cap (fun i _ => rk_1 _ _ _ _ _ _) (fun i a b => by omega)
  intro r
  induction r with
  | zero =>
    intro z hz
    have : z = wn := by omega
    subst this
    rw [F_X7_least_30]
    have e : nI k - 1 = nI (k - 1) := pk_sub (b := 1) hk
    rw [e]
    by_cases c : cn (rk rw x g (g + w + 1) y) z = k - 1
    · rw [if_pos c, if_pos (by rw [c])]
    · rw [if_neg c, if_neg (fun q => c ((nI_eq (by omega) (by omega)).mp q))]
  | succ r ih =>
    intro z hz
    have ih := ih (z + 1) (by omega)
    have e1 : cn (rk rw x g (g + w + 1) y) (z + 1) = cn (rk rw x g (g + w + 1) y) z + rk rw x g (g + w + 1) y z := rfl
    rw [e1] at ih
    rw [F_X7_least_30]
    by_cases c1 : nb x g (g + w + 1) z
    · rw [if_neg (fun q => (near_nb (by omega) (by omega) (by omega) (by omega)).mp q c1)]
      by_cases c2 : rw z < rw y
      · have e2 : rk rw x g (g + w + 1) y z = 1 := by unfold rk; rw [if_pos c1, if_pos c2]
        rw [e2, ← nI_1] at ih
        rw [if_pos c2]; exact ih
      · rw [if_neg c2]
        by_cases c3 : rw z = rw y
        · rw [if_pos c3]
          by_cases c4 : y ≤ z
          · have e2 : rk rw x g (g + w + 1) y z = 0 := by unfold rk; rw [if_pos c1, if_neg c2, if_pos c3, if_neg (by omega)]
            rw [e2] at ih
            rw [if_pos ((nI_leI (by omega) (by omega)).mpr c4), Int32.add_zero]; exact ih
          · have e2 : rk rw x g (g + w + 1) y z = 1 := by unfold rk; rw [if_pos c1, if_neg c2, if_pos c3, if_pos (by omega)]
            rw [e2, ← nI_1] at ih
            rw [if_neg (fun q => c4 ((nI_leI (by omega) (by omega)).mp q))]; exact ih
        · have e2 : rk rw x g (g + w + 1) y z = 0 := by unfold rk; rw [if_pos c1, if_neg c2, if_neg c3]
          rw [e2] at ih
          rw [if_neg c3, Int32.add_zero]; exact ih
    · have e2 : rk rw x g (g + w + 1) y z = 0 := by unfold rk; rw [if_neg c1]
      rw [e2] at ih
      rw [if_pos ((near_nb (by omega) (by omega) (by omega) (by omega)).mpr c1), Int32.add_zero]; exact ih
theorem F_l3 {rw : Nat → Int32} {wn x w g k : Nat} (hw : wn ≤ 64) (hx : x < wn) (hW : w ≤ 8) (hG : g ≤ 3) (hk : 1 ≤ k) (hk2 : k ≤ 8) : ∀ (r y0 : Nat), y0 + r = wn →
    (∃ y, y0 ≤ y ∧ y < wn ∧ nb x g (g + w + 1) y ∧ cn (rk rw x g (g + w + 1) y) wn = k - 1 ∧ F_X7_least_3 wn rw (nI x) (nI w) (nI g) (nI k) r y0 = rw y) ∨
    ((∀ y, y0 ≤ y → y < wn → nb x g (g + w + 1) y → ¬ cn (rk rw x g (g + w + 1) y) wn = k - 1) ∧ F_X7_least_3 wn rw (nI x) (nI w) (nI g) (nI k) r y0 = -1) := by
  intro r
  induction r with
  | zero => intro y0 h; exact Or.inr ⟨fun y a b => by omega, by rw [F_X7_least_3]⟩
  | succ r ih =>
    intro y0 h
    rw [F_X7_least_3]
    by_cases c1 : nb x g (g + w + 1) y0
    · rw [if_neg (fun q => (near_nb (by omega) (by omega) (by omega) (by omega)).mp q c1)]
      have e := F_l30 (rw := rw) (y := y0) hw hx (by omega) hW hG hk hk2 (fun _ => F_X7_least_3 wn rw (nI x) (nI w) (nI g) (nI k) r (y0 + 1)) (wn - 0) 0 (by omega)
      have e : F_X7_least_30 rw (nI x) (nI w) (nI g) (nI k) y0 (fun _ => F_X7_least_3 wn rw (nI x) (nI w) (nI g) (nI k) r (y0 + 1)) (wn - 0) 0 0 = _ := e
      rw [e]
      by_cases c2 : cn (rk rw x g (g + w + 1) y0) wn = k - 1
      · rw [if_pos c2]
        exact Or.inl ⟨y0, Nat.le_refl _, by omega, c1, c2, rfl⟩
      · rw [if_neg c2]
        rcases ih (y0 + 1) (by omega) with ⟨y, a, b⟩ | ⟨a, b⟩
        · exact Or.inl ⟨y, by omega, b⟩
        · refine Or.inr ⟨fun y q1 q2 q3 => ?_, b⟩
          by_cases q : y = y0
          · rw [q]; exact c2
          · exact a y (by omega) q2 q3
    · rw [if_pos ((near_nb (by omega) (by omega) (by omega) (by omega)).mpr c1)]
      rcases ih (y0 + 1) (by omega) with ⟨y, a, b⟩ | ⟨a, b⟩
      · exact Or.inl ⟨y, by omega, b⟩
      · refine Or.inr ⟨fun y q1 q2 q3 => ?_, b⟩
        by_cases q : y = y0
        · rw [q] at q3; exact absurd q3 c1
        · exact a y (by omega) q2 q3
theorem ord_at {rw : Nat → Int32} {wn x w g k m : Nat} {od : Nat → Int32} (hw : wn ≤ 64) (hx : x < wn) (hW : w ≤ 8) (hG : g ≤ 3) (hk : 1 ≤ k) (hk2 : k ≤ 8) (h : St od m (nC rw wn x g (g + w + 1))) :
    (m < k ∧ fX7_least wn rw (nI x) (nI w) (nI g) (nI k) = -1) ∨ (k ≤ m ∧ ∃ y, y < wn ∧ fX7_least wn rw (nI x) (nI w) (nI g) (nI k) = rw y ∧ od (k - 1) = rw y) := by
  have hlt : ∀ v : Int32, cn (fun i => if od i < v then 1 else 0) m = cn (fun y => if nb x g (g + w + 1) y then (if rw y < v then 1 else 0) else 0) wn := fun v => h.2 (fun u => if u < v then 1 else 0)
  have hle : ∀ v : Int32, cn (fun i => if od i ≤ v then 1 else 0) m = cn (fun y => if nb x g (g + w + 1) y then (if rw y ≤ v then 1 else 0) else 0) wn := fun v => h.2 (fun u => if u ≤ v then 1 else 0)
  have one : ∀ (P : Nat → Prop) [DecidablePred P] (i : Nat), (if P i then 1 else 0) ≤ 1 := fun P _ i => by split <;> omega
  unfold fX7_least
  rcases F_l3 (rw := rw) hw hx hW hG hk hk2 (wn - 0) 0 (by omega) with ⟨y, -, hy, hn, hr, e⟩ | ⟨hno, e⟩
  · rw [e]
    have l1 : cn (fun i => if od i < rw y then 1 else 0) m ≤ k - 1 := by
      rw [hlt, ← hr]
      refine cn_le (fun z hz => ?_)
      unfold rk
      by_cases c1 : nb x g (g + w + 1) z
      · rw [if_pos c1, if_pos c1]
        by_cases c2 : rw z < rw y
        · rw [if_pos c2, if_pos c2]; omega
        · rw [if_neg c2]; omega
      · rw [if_neg c1]; omega
    have l2 : k ≤ cn (fun i => if od i ≤ rw y then 1 else 0) m := by
      rw [hle]
      have q : cn (fun z => rk rw x g (g + w + 1) y z + (if z = y then 1 else 0)) wn ≤ cn (fun y_1 => if nb x g (g + w + 1) y_1 then (if rw y_1 ≤ rw y then 1 else 0) else 0) wn := by
        refine cn_le (fun z hz => ?_)
        show rk rw x g (g + w + 1) y z + (if z = y then 1 else 0) ≤ (if nb x g (g + w + 1) z then (if rw z ≤ rw y then 1 else 0) else 0)
        unfold rk
        by_cases p1 : z = y
        · subst p1
          rw [if_pos hn, if_neg (fun q => by rw [i32_lt] at q; omega), if_pos rfl, if_neg (by omega), if_pos rfl, if_pos hn, if_pos (by rw [i32_le]; omega)]
          omega
        · rw [if_neg p1]
          by_cases c1 : nb x g (g + w + 1) z
          · rw [if_pos c1, if_pos c1]
            by_cases c2 : rw z < rw y
            · rw [if_pos c2, if_pos (by rw [i32_lt] at c2; rw [i32_le]; omega)]
              omega
            · rw [if_neg c2]
              by_cases c3 : rw z = rw y
              · have c4 : rw z ≤ rw y := by rw [c3, i32_le]; omega
                rw [if_pos c3, if_pos c4]
                split <;> omega
              · rw [if_neg c3]; omega
          · rw [if_neg c1]; omega
      rw [cn_add, cn_pt, if_pos hy, hr] at q
      omega
    have l3 : cn (fun i => if od i ≤ rw y then 1 else 0) m ≤ m := cn_cap (fun i _ => one (fun i => od i ≤ rw y) i) (fun i a b => by omega)
    refine Or.inr ⟨by omega, y, hy, rfl, i_an ?_ ?_⟩
    · refine Classical.byContradiction fun q => ?_
      have : cn (fun i => if od i ≤ rw y then 1 else 0) m ≤ k - 1 := cn_cap (fun i _ => one (fun i => od i ≤ rw y) i) (fun i a b => if_neg (fun q2 => q (i_tr (h.1 (k - 1) i a b) q2)))
      omega
    · intro q
      have : k ≤ cn (fun i => if od i < rw y then 1 else 0) m := cn_floor (by omega) (fun i hi => if_pos (by
        have := h.1 i (k - 1) (by omega) (by omega)
        rw [i32_lt] at *
        rw [i32_le] at this
        omega))
      omega
  · rw [e]
    refine Or.inl ⟨?_, rfl⟩
    refine Classical.byContradiction fun hm => ?_
    have l1 : cn (fun i => if od i < od (k - 1) then 1 else 0) m ≤ k - 1 := cn_cap (fun i _ => one (fun i => od i < od (k - 1)) i) (fun i a b => if_neg (fun q => by
      have := h.1 (k - 1) i a b
      rw [i32_lt] at q
      rw [i32_le] at this
      omega))
    have l2 : k ≤ cn (fun i => if od i ≤ od (k - 1) then 1 else 0) m := cn_floor (by omega) (fun i hi => if_pos (h.1 i (k - 1) (by omega) (by omega)))
    rw [hlt] at l1
    rw [hle] at l2
    have sp : cn (fun y => if nb x g (g + w + 1) y then (if rw y ≤ od (k - 1) then 1 else 0) else 0) wn = cn (fun y => if nb x g (g + w + 1) y then (if rw y < od (k - 1) then 1 else 0) else 0) wn + cn (fun y => if nb x g (g + w + 1) y then (if rw y = od (k - 1) then 1 else 0) else 0) wn := by
      rw [← cn_add]
      refine cn_congr (fun z hz => ?_)
      show (if nb x g (g + w + 1) z then (if rw z ≤ od (k - 1) then 1 else 0) else 0) = (if nb x g (g + w + 1) z then (if rw z < od (k - 1) then 1 else 0) else 0) + (if nb x g (g + w + 1) z then (if rw z = od (k - 1) then 1 else 0) else 0)
      by_cases c1 : nb x g (g + w + 1) z
      · rw [if_pos c1, if_pos c1, if_pos c1]
        by_cases c3 : rw z = od (k - 1)
        · rw [if_pos c3, if_pos (by rw [c3, i32_le]; omega), if_neg (by rw [c3, i32_lt]; omega)]
        · rw [if_neg c3]
          have : ¬ (rw z).toInt = (od (k - 1)).toInt := fun q => c3 (Int32.toInt_inj.mp q)
          by_cases c2 : rw z < od (k - 1)
          · rw [if_pos c2, if_pos (by rw [i32_lt] at c2; rw [i32_le]; omega)]
          · rw [if_neg c2, if_neg (by rw [i32_lt] at c2; rw [i32_le]; omega)]
      · rw [if_neg c1, if_neg c1, if_neg c1]
    obtain ⟨y, hy, e1, e2⟩ := cn_mid (f := fun y => if nb x g (g + w + 1) y then (if rw y = od (k - 1) then 1 else 0) else 0) (n := wn) (t := k - 1) (fun i _ => by
      show (if nb x g (g + w + 1) i then (if rw i = od (k - 1) then 1 else 0) else 0) ≤ 1
      repeat' split
      all_goals omega) l1 (by omega)
    have e2 : (if nb x g (g + w + 1) y then (if rw y = od (k - 1) then 1 else 0) else 0) = 1 := e2
    by_cases c1 : nb x g (g + w + 1) y
    · rw [if_pos c1] at e2
      by_cases c2 : rw y = od (k - 1)
      · refine hno y (Nat.zero_le _) hy c1 ?_
        rw [← e1, ← cn_cut (f := fun y => if nb x g (g + w + 1) y then (if rw y = od (k - 1) then 1 else 0) else 0) (y := y) (n := wn) (by omega), ← cn_add]
        refine cn_congr (fun z hz => ?_)
        show rk rw x g (g + w + 1) y z = (if nb x g (g + w + 1) z then (if rw z < od (k - 1) then 1 else 0) else 0) + (if z < y then (if nb x g (g + w + 1) z then (if rw z = od (k - 1) then 1 else 0) else 0) else 0)
        unfold rk
        rw [c2]
        by_cases d1 : nb x g (g + w + 1) z
        · rw [if_pos d1, if_pos d1, if_pos d1]
          by_cases d2 : rw z < od (k - 1)
          · have d3 : ¬ rw z = od (k - 1) := fun q => by rw [q, i32_lt] at d2; omega
            rw [if_pos d2, if_pos d2, if_neg d3]
            split <;> omega
          · rw [if_neg d2, if_neg d2]
            by_cases d3 : rw z = od (k - 1)
            · rw [if_pos d3, if_pos d3]; split <;> omega
            · rw [if_neg d3, if_neg d3]; split <;> omega
        · rw [if_neg d1, if_neg d1, if_neg d1]
          split <;> omega
      · rw [if_neg c2] at e2; omega
    · rw [if_neg c1] at e2; omega
theorem e_stands {rw rm : Nat → Int32} {wn wm : Nat} (h : RW rw wn rm wm) {x w g k : Nat} (hx : x < wn) (hW : w ≤ 8) (hG : g ≤ 3) (hk : 1 ≤ k) (hk2 : k ≤ 8) (od : Nat → Int32) (sc : Int32) :
    (fX3_standsOut rw wn od x w g k sc).1 = fX7_isFound wm rm x (nI w) (nI g) (nI k) sc := by
  obtain ⟨rfl, h1, h2⟩ := h
  obtain ⟨m, od', e, hs⟩ := F_ord (rw := rw) (g := g) hx h1 (g + w + 1 - (g + 1)) (g + 1) 0 od (Nat.le_refl _) (by omega) ⟨fun i j _ q => absurd q (by omega), fun Q => by
    refine (cn_zero (fun y hy => if_neg ?_)).symm
    unfold nb
    omega⟩
  rw [show g + 1 + (g + w + 1 - (g + 1)) = g + w + 1 by omega] at hs
  have hs : St od' m (nC rm wn x g (g + w + 1)) := ⟨hs.1, fun Q => by
    rw [hs.2 Q]
    refine cn_congr (fun y hy => ?_)
    show (if nb x g (g + w + 1) y then Q (rw y) else 0) = (if nb x g (g + w + 1) y then Q (rm y) else 0)
    rw [(h2 y hy).1]⟩
  have hm : m ≤ wn := by
    have q := hs.2 (fun _ => 1)
    have q1 : m ≤ cn (fun _ => 1) m := cn_floor (Nat.le_refl _) (fun _ _ => rfl)
    have q2 : nC rm wn x g (g + w + 1) (fun _ => 1) ≤ wn := cn_cap (fun i _ => by
      show (if nb x g (g + w + 1) i then 1 else 0) ≤ 1
      split <;> omega) (fun i a b => by omega)
    omega
  have e : fX3_orderNeighbours rw wn od x w g = (nI m, od') := e
  unfold fX3_standsOut fX7_isFound
  rw [e, (h2 x hx).1]
  rcases ord_at h1 hx hW hG hk hk2 hs with ⟨a, b⟩ | ⟨a, y, hy, b, c⟩
  · rw [b, if_pos ((nI_ltI (by omega) (by omega)).mpr a), if_pos rfl]
  · obtain ⟨v, hv, ev⟩ := (h2 y hy).2
    rw [(h2 y hy).1] at ev
    have n1 : ¬ rm y = -1 := fun q => by
      rw [ev] at q
      have q2 : (nI v).toInt = (-1 : Int32).toInt := by rw [q]
      rw [nI_toInt (by omega)] at q2
      have : (-1 : Int32).toInt = -1 := rfl
      omega
    have n2 : ¬ nI m < nI k := fun q => by have := (nI_ltI (by omega) (by omega)).mp q; omega
    show (if nI m < nI k then ((0 : Int32), od') else (if 10 * rm x ≤ sc * od' (k - 1) then ((0 : Int32), od') else (1, od'))).1 = _
    rw [b, if_neg n2, if_neg n1, c]
    by_cases q : 10 * rm x ≤ sc * rm y
    · rw [if_pos q, if_pos q]
    · rw [if_neg q, if_neg q]
theorem F_cnt {rw rm : Nat → Int32} {wn : Nat} (h : RW rw wn rm wn) {w g k : Nat} (hW : w ≤ 8) (hG : g ≤ 3) (hk : 1 ≤ k) (hk2 : k ≤ 8) (sc : Int32) : ∀ (r x : Nat) (c : Int32) (od : Nat → Int32), x + r = wn →
    (F_X3_standingOut_6 rw wn w g k sc r x c od).1 = F_X7_count_20 wn rm (nI w) (nI g) (nI k) sc r x c := by
  intro r
  induction r with
  | zero => intro x c od _; rw [F_X3_standingOut_6, F_X7_count_20]
  | succ r ih =>
    intro x c od hr
    rw [F_X3_standingOut_6, F_X7_count_20, e_stands h (by omega) hW hG hk hk2]
    by_cases q : fX7_isFound wn rm x (nI w) (nI g) (nI k) sc = 0
    · rw [if_pos q, if_pos q, Int32.add_zero]; exact ih _ _ _ (by omega)
    · rw [if_neg q, if_neg q]; exact ih _ _ _ (by omega)
theorem seek_in (w g k sc : Int32) : fX3_maySeek w g k sc = fX7_isScaled w g k sc := rfl
theorem seekd_nat {w g k sc : Int32} (h : ¬ fX7_isScaled w g k sc = 0) : ∃ a b c : Nat, (1 ≤ a ∧ a ≤ 8 ∧ w = nI a) ∧ (b ≤ 3 ∧ g = nI b) ∧ (1 ≤ c ∧ c ≤ 8 ∧ k = nI c) := by
  unfold fX7_isScaled at h
  by_cases c1 : fX7_in w 1 8 = 0
  · rw [if_pos c1] at h; exact absurd rfl h
  rw [if_neg c1] at h
  by_cases c2 : fX7_in g 0 3 = 0
  · rw [if_pos c2] at h; exact absurd rfl h
  rw [if_neg c2] at h
  by_cases c3 : fX7_in k 1 8 = 0
  · rw [if_pos c3] at h; exact absurd rfl h
  obtain ⟨a, a1, a2, a3⟩ := in_nat (a := 1) (b := 8) c1 (by omega)
  obtain ⟨b, b1, b2, b3⟩ := in_nat (a := 0) (b := 3) c2 (by omega)
  obtain ⟨c, d1, d2, d3⟩ := in_nat (a := 1) (b := 8) c3 (by omega)
  exact ⟨a, b, c, ⟨a1, a2, a3⟩, ⟨b2, b3⟩, ⟨d1, d2, d3⟩⟩
theorem e_found {rw rm : Nat → Int32} {wn wm : Nat} (h : RW rw wn rm wm) (od : Nat → Int32) (xx xw xg xk sc : Int32) : (fX6_found rw wn od xx xw xg xk sc).1 = fX7_found wm rm xx xw xg xk sc := by
  have h1 := h.1
  have h2 := h.2.1
  unfold fX6_found fX7_found
  rw [w_in, seek_in, ← h1]
  by_cases c1 : fX7_in xx 0 (nI wn - 1) = 0
  · rw [if_pos c1, if_pos c1]
  rw [if_neg c1, if_neg c1]
  by_cases c2 : fX7_isScaled xw xg xk sc = 0
  · rw [if_pos c2, if_pos c2]
  rw [if_neg c2, if_neg c2]
  obtain ⟨x, hx, rfl⟩ := in_m1 c1 (by omega)
  obtain ⟨a, b, c, ⟨a1, a2, rfl⟩, ⟨b2, rfl⟩, ⟨d1, d2, rfl⟩⟩ := seekd_nat c2
  rw [nI_clamp (by omega), nI_clamp (by omega), nI_clamp (by omega), nI_clamp (by omega), e_stands h hx a2 b2 d1 d2, ← h1]
  by_cases q : fX7_isFound wn rm x (nI a) (nI b) (nI c) sc = 0
  · rw [if_pos q, if_pos q]
  · rw [if_neg q, if_neg q]
theorem e_count {rw rm : Nat → Int32} {wn wm : Nat} (h : RW rw wn rm wm) (od : Nat → Int32) (xw xg xk sc : Int32) : (fX6_count rw wn od xw xg xk sc).1 = fX7_count wm rm xw xg xk sc := by
  have h1 := h.1
  subst h1
  unfold fX6_count fX7_count
  rw [seek_in]
  by_cases c2 : fX7_isScaled xw xg xk sc = 0
  · rw [if_pos c2, if_pos c2]
  rw [if_neg c2, if_neg c2]
  obtain ⟨a, b, c, ⟨a1, a2, rfl⟩, ⟨b2, rfl⟩, ⟨d1, d2, rfl⟩⟩ := seekd_nat c2
  rw [nI_clamp (by omega), nI_clamp (by omega), nI_clamp (by omega)]
  exact F_cnt h a2 b2 d1 d2 sc (wn - 0) 0 0 od (by omega)
