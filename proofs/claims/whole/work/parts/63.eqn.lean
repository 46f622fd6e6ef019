theorem gch_pos {R : Nat} (hR : 0 < R) (P : Nat → Nat) (a m : Nat) : 0 < gch R P a m := Nat.pos_of_dvd_of_pos (gch_dvd R P a m) hR
theorem gch_le {R : Nat} (hR : 0 < R) (P : Nat → Nat) (a m : Nat) : gch R P a m ≤ R := Nat.le_of_dvd hR (gch_dvd R P a m)
theorem F_unseen {per : Nat → Int32} {R : Nat} (hR : 0 < R) (hR2 : R ≤ 3600) (P : Nat → Nat) (a : Nat) : ∀ (r m : Nat), (∀ i, m ≤ i → i < m + r → per (a + i) = nI (P (a + i)) ∧ P (a + i) ≤ 60) → F_X2_unseen_7 per r (a + m) (lN (gch R P a m)) = nI (gch R P a (m + r)) := by
  intro r
  induction r with
  | zero => intro m h; rw [F_X2_unseen_7, lN_i]; rfl
  | succ r ih =>
    intro m h
    have hm := h m (by omega) (by omega)
    have h1 := gch_pos hR P a m
    have h2 := gch_le hR P a m
    rw [F_X2_unseen_7, hm.1, nI_l (by omega), cd_gcd (by omega) (by omega) (by omega)]
    have e := ih (m + 1) (fun i h1 h2 => h i (by omega) (by omega))
    rw [show m + (r + 1) = m + 1 + r by omega, ← e]
    rfl
theorem rem_0 {v p rd : Nat} (hv : v ≤ 3600) (hp : p ≤ 60) (h1 : 1 ≤ rd) (h2 : rd ≤ 3600) : (nI v * nI p - nI v * nI p / nI rd * nI rd = 0) ↔ rd ∣ v * p := by
  have hb : v * p ≤ 3600 * 60 := Nat.mul_le_mul hv hp
  have hm := Nat.mod_lt (v * p) (show rd > 0 by omega)
  rw [pk_mul, pk_rem (by omega) (by omega) (by omega), show (0 : Int32) = nI 0 from rfl, nI_eq (by omega) (by omega)]
  exact (Nat.dvd_iff_mod_eq_zero).symm
/-- what the reference asks of a speed at one rest -/
def bl (P : Nat → Nat) (xi : Int32) (rd v i : Nat) : Prop := (xi = -1 ∨ nI i = xi) → rd ∣ v * P i
theorem F_bl47 {P : Nat → Nat} {xi : Int32} {rd v : Nat} (hv : v ≤ 3600) (h1 : 1 ≤ rd) (h2 : rd ≤ 3600) (x3 : Int32) (K : Int32 → Int32) : ∀ (r k : Nat), (∀ i, k ≤ i → i < k + r → P i ≤ 60) →
    (F_X7_blind_47 P xi rd x3 v K r k 0 = K (x3 + 0)) ∧ ((∀ i, k ≤ i → i < k + r → bl P xi rd v i) → F_X7_blind_47 P xi rd x3 v K r k 1 = K (x3 + 1)) ∧ ((¬ ∀ i, k ≤ i → i < k + r → bl P xi rd v i) → F_X7_blind_47 P xi rd x3 v K r k 1 = K (x3 + 0)) := by
  intro r
  induction r with
  | zero =>
    intro k hp
    rw [F_X7_blind_47, F_X7_blind_47, if_pos rfl, if_neg (by decide)]
    exact ⟨rfl, fun _ => rfl, fun z => absurd (fun i a b => absurd b (by omega)) z⟩
  | succ r ih =>
    intro k hp
    obtain ⟨i0, i1, i2⟩ := ih (k + 1) (fun i a b => hp i (by omega) (by omega))
    have hr := rem_0 (v := v) (p := P k) hv (hp k (by omega) (by omega)) h1 h2
    have step : (bl P xi rd v k → F_X7_blind_47 P xi rd x3 v K (r + 1) k 1 = F_X7_blind_47 P xi rd x3 v K r (k + 1) 1) ∧ (¬ bl P xi rd v k → F_X7_blind_47 P xi rd x3 v K (r + 1) k 1 = F_X7_blind_47 P xi rd x3 v K r (k + 1) 0) := by
      rw [F_X7_blind_47, if_neg (show ¬ (1 : Int32) = 0 by decide)]
      by_cases c1 : xi = -1
      · rw [if_pos c1]
        by_cases c2 : rd ∣ v * P k
        · rw [if_pos (hr.mpr c2)]; exact ⟨fun _ => rfl, fun z => absurd (fun _ => c2) z⟩
        · rw [if_neg (fun z => c2 (hr.mp z))]; exact ⟨fun z => absurd (z (Or.inl c1)) c2, fun _ => rfl⟩
      · rw [if_neg c1]
        by_cases c3 : nI k = xi
        · rw [if_pos c3]
          by_cases c2 : rd ∣ v * P k
          · rw [if_pos (hr.mpr c2)]; exact ⟨fun _ => rfl, fun z => absurd (fun _ => c2) z⟩
          · rw [if_neg (fun z => c2 (hr.mp z))]; exact ⟨fun z => absurd (z (Or.inr c3)) c2, fun _ => rfl⟩
        · rw [if_neg c3]; exact ⟨fun _ => rfl, fun z => absurd (fun y => by rcases y with y | y; exact absurd y c1; exact absurd y c3) z⟩
    refine ⟨?_, fun z => ?_, fun z => ?_⟩
    · rw [F_X7_blind_47, if_pos rfl]; exact i0
    · rw [step.1 (z k (by omega) (by omega))]
      exact i1 (fun i a b => z i (by omega) (by omega))
    · by_cases c : bl P xi rd v k
      · rw [step.1 c]
        refine i2 (fun q => z (fun i a b => ?_))
        rcases Nat.lt_or_ge k i with w | w
        · exact q i (by omega) (by omega)
        · rw [show i = k by omega]; exact c
      · rw [step.2 c]; exact i0
