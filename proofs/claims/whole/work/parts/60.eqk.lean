def gl (sn : Nat → Nat) (cp : Nat → Int32) (a c : Nat) (i : Nat) : Int32 := if nI (sn a) ≤ nI (i - 16 * c) then 0 else cp (i - 16 * c)
theorem F_m128 (sn : Nat → Nat) (cp : Nat → Int32) (a c : Nat) : ∀ (r k : Nat) (tu : Nat → Int32), F_X7_made_128 sn cp a c r k tu = (nI (sn a), updN sn c (sn a), filF tu (gl sn cp a c) (16 * c + k) r, cp) := by
  intro r
  induction r with
  | zero => intro k tu; rw [F_X7_made_128, filF_0]
  | succ r ih =>
    intro k tu
    have ek : 16 * c + k - 16 * c = k := by omega
    rw [F_X7_made_128, ← filF_s]
    by_cases q : nI (sn a) ≤ nI k
    · rw [if_pos q, ih, show gl sn cp a c (16 * c + k) = 0 from by unfold gl; rw [ek, if_pos q], show 16 * c + (k + 1) = 16 * c + k + 1 by omega]
    · rw [if_neg q, ih, show gl sn cp a c (16 * c + k) = cp k from by unfold gl; rw [ek, if_neg q], show 16 * c + (k + 1) = 16 * c + k + 1 by omega]
def gm (sn : Nat → Nat) (tu : Nat → Int32) (xs : Int32) (a i : Nat) : Int32 := if xs = 0 then tu (16 * a + (sn a - 1 - i)) else if xs = 1 then (4 - tu (16 * a + i)) - (4 - tu (16 * a + i)) / 4 * 4 else (tu (16 * a + i) + 1) - (tu (16 * a + i) + 1) / 4 * 4
theorem F_m40 (sn : Nat → Nat) (tu : Nat → Int32) (xs : Int32) (a c : Nat) : ∀ (r k : Nat) (cp : Nat → Int32), F_X7_made_40 sn tu xs a c r k cp = F_X7_made_128 sn (filF cp (gm sn tu xs a) k r) a c (16 - 0) 0 tu := by
  intro r
  induction r with
  | zero => intro k cp; rw [F_X7_made_40, filF_0]
  | succ r ih =>
    intro k cp
    rw [F_X7_made_40, ← filF_s]
    by_cases q : xs = 0
    · rw [if_pos q, if_pos q, ih, show gm sn tu xs a k = tu (16 * a + (sn a - 1 - k)) from if_pos q]
    · rw [if_neg q, if_neg q]
      by_cases q2 : xs = 1
      · rw [if_pos q2, ih, show gm sn tu xs a k = (4 - tu (16 * a + k)) - (4 - tu (16 * a + k)) / 4 * 4 from by unfold gm; rw [if_neg q, if_pos q2]]
      · rw [if_neg q2, ih, show gm sn tu xs a k = (tu (16 * a + k) + 1) - (tu (16 * a + k) + 1) / 4 * 4 from by unfold gm; rw [if_neg q, if_neg q2]]
theorem mir_tab : ∀ t : Fin 4, (-(nI t.val)) &&& 3 = (4 - nI t.val) - (4 - nI t.val) / 4 * 4 ∧ (-(nI t.val)) &&& 3 = nI ((4 - t.val) % 4) := by decide
theorem adv_tab : ∀ t : Fin 4, (nI t.val + 1) &&& 3 = (nI t.val + 1) - (nI t.val + 1) / 4 * 4 ∧ (nI t.val + 1) &&& 3 = nI ((t.val + 1) % 4) := by decide
theorem made_keep {tr tr' : Nat → Nat → Int32} {ln ln' sn : Nat → Nat} {tu tu' : Nat → Int32} (h : RS tr ln sn tu) {a c : Nat} (ha : a < 6) (e1 : ∀ q, q < 6 → ln' q = if q = c then ln a else ln q) (e2 : ∀ q, q ≠ c → tr' q = tr q) (e3 : ∀ i, i < ln a → tr' c i = tu' (16 * c + i) ∧ ∃ t, t < 4 ∧ tr' c i = nI t)
    (e4 : ∀ q i, q ≠ c → i < 16 → tu' (16 * q + i) = tu (16 * q + i)) : RS tr' ln' (updN sn c (sn a)) tu' := by
  have hla := h.1 a ha
  refine ⟨fun q hq => ?_, fun q i hq hi => ?_, fun q i hq hi => ?_⟩
  · rw [e1 q hq]
    unfold updN
    by_cases e : q = c
    · rw [if_pos e, if_pos e]; exact hla
    · rw [if_neg e, if_neg e]; exact h.1 q hq
  · rw [e1 q hq] at hi
    by_cases e : q = c
    · rw [if_pos e] at hi
      subst e
      exact (e3 i hi).1
    · rw [if_neg e] at hi
      have := (h.1 q hq).2.2
      rw [e2 q e, e4 q i e (by omega)]
      exact h.2.1 q i hq hi
  · rw [e1 q hq] at hi
    by_cases e : q = c
    · rw [if_pos e] at hi
      subst e
      exact (e3 i hi).2
    · rw [if_neg e] at hi
      rw [e2 q e]
      exact h.2.2 q i hq hi
/-- what the reference lays for a sign that is made, and that the class's row is like it -/
theorem made_row {tr : Nat → Nat → Int32} {ln sn : Nat → Nat} {tu : Nat → Int32} (h : RS tr ln sn tu) {a c : Nat} (ha : a < 6) (hc : c < 6) {xs : Int32} {cp : Nat → Int32} {row : Nat → Int32} (hrow : ∀ i, i < ln a → row i = gm sn tu xs a i) : ∀ i, i < ln a → row i = filF tu (gl sn (filF cp (gm sn tu xs a) 0 (sn a - 0)) a c) (16 * c + 0) (16 - 0) (16 * c + i) := by
  intro i hi
  have hla := h.1 a ha
  rw [filF_in (by omega) (by omega), hrow i hi]
  unfold gl
  rw [show 16 * c + i - 16 * c = i by omega, if_neg (nI_ge (by omega) (by omega)), filF_in (by omega) (by omega)]
theorem gm_range {tr : Nat → Nat → Int32} {ln sn : Nat → Nat} {tu : Nat → Int32} (h : RS tr ln sn tu) {a : Nat} (ha : a < 6) (xs : Int32) {i : Nat} (hi : i < ln a) : ∃ t, t < 4 ∧ gm sn tu xs a i = nI t := by
  have hla := h.1 a ha
  obtain ⟨t, ht, et⟩ := h.2.2 a i ha hi
  obtain ⟨u, hu, eu⟩ := h.2.2 a (ln a - 1 - i) ha (by omega)
  rw [h.2.1 a i ha hi] at et
  rw [h.2.1 a (ln a - 1 - i) ha (by omega), hla.1] at eu
  unfold gm
  by_cases q : xs = 0
  · rw [if_pos q]; exact ⟨u, hu, eu⟩
  · rw [if_neg q]
    by_cases q2 : xs = 1
    · rw [if_pos q2, et, ← (mir_tab ⟨t, ht⟩).1, (mir_tab ⟨t, ht⟩).2]
      exact ⟨_, Nat.mod_lt _ (by omega), rfl⟩
    · rw [if_neg q2, et, ← (adv_tab ⟨t, ht⟩).1, (adv_tab ⟨t, ht⟩).2]
      exact ⟨_, Nat.mod_lt _ (by omega), rfl⟩
