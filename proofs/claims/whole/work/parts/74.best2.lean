/-! best: the two searches. -/
def mS (P F : Nat → Int32) (k : Nat) (s : Int32 × Int32 × Int32) : Int32 × Int32 × Int32 := if s.1 = -1 then (P k, F k, nI k) else if s.1 < P k then s else if P k < s.1 then (P k, F k, nI k) else if s.2.1 ≤ F k then s else (P k, F k, nI k)
def mL (P F : Nat → Int32) : Nat → Nat → Int32 × Int32 × Int32 → Int32 × Int32 × Int32
  | 0, _, s => s
  | r + 1, k, s => mL P F r (k + 1) (mS P F k s)
theorem mL_add (P F : Nat → Int32) (b : Nat) : ∀ (a k : Nat) (s : Int32 × Int32 × Int32), mL P F (a + b) k s = mL P F b (k + a) (mL P F a k s) := by
  intro a
  induction a with
  | zero => intro k s; rw [Nat.zero_add]; rfl
  | succ a ih =>
    intro k s
    rw [show a + 1 + b = (a + b) + 1 by omega]
    show mL P F (a + b) (k + 1) (mS P F k s) = mL P F b (k + (a + 1)) (mL P F a (k + 1) (mS P F k s))
    rw [ih, show k + 1 + a = k + (a + 1) by omega]
def mI (P F : Nat → Int32) (N : Nat) (s : Int32 × Int32 × Int32) : Prop := (∃ j, j < N ∧ s = (P j, F j, nI j)) ∧ ∀ j, j < N → s.1 ≤ P j ∧ (P j = s.1 → s.2.1 ≤ F j)
theorem i_rf (a : Int32) : a ≤ a := by rw [i32_le]; omega
theorem mS_inv {P F : Nat → Int32} (hP : ∀ k, ¬ P k = -1) {k : Nat} {s : Int32 × Int32 × Int32} (h : mI P F k s) : mI P F (k + 1) (mS P F k s) := by
  obtain ⟨⟨j, hj, e⟩, hm⟩ := h
  have hs : ¬ s.1 = -1 := by rw [e]; exact hP j
  have new : (P k < s.1 ∨ (P k = s.1 ∧ ¬ s.2.1 ≤ F k)) → mI P F (k + 1) (P k, F k, nI k) := by
    intro hc
    refine ⟨⟨k, by omega, rfl⟩, fun i hi => ?_⟩
    by_cases q : i = k
    · subst q
      exact ⟨i_rf _, fun _ => i_rf _⟩
    · have h1 := hm i (by omega)
      show P k ≤ P i ∧ (P i = P k → F k ≤ F i)
      rcases hc with c | ⟨c1, c2⟩
      · have h2 := h1.1
        rw [i32_lt] at c
        rw [i32_le] at h2
        refine ⟨by rw [i32_le]; omega, fun q2 => ?_⟩
        rw [q2] at h2
        omega
      · refine ⟨by rw [c1]; exact h1.1, fun q2 => ?_⟩
        exact i_tr (i_nle c2) (h1.2 (q2.trans c1))
  have old : (s.1 < P k ∨ (P k = s.1 ∧ s.2.1 ≤ F k)) → mI P F (k + 1) s := by
    intro hc
    refine ⟨⟨j, by omega, e⟩, fun i hi => ?_⟩
    by_cases q : i = k
    · subst q
      rcases hc with c | ⟨c1, c2⟩
      · refine ⟨by rw [i32_lt] at c; rw [i32_le]; omega, fun q2 => ?_⟩
        rw [q2, i32_lt] at c
        omega
      · exact ⟨by rw [c1]; exact i_rf _, fun _ => c2⟩
    · exact hm i (by omega)
  unfold mS
  rw [if_neg hs]
  by_cases c1 : s.1 < P k
  · rw [if_pos c1]; exact old (Or.inl c1)
  · rw [if_neg c1]
    by_cases c2 : P k < s.1
    · rw [if_pos c2]; exact new (Or.inl c2)
    · rw [if_neg c2]
      have ee : P k = s.1 := Int32.toInt_inj.mp (by rw [i32_lt] at c1 c2; omega)
      by_cases c3 : s.2.1 ≤ F k
      · rw [if_pos c3]; exact old (Or.inr ⟨ee, c3⟩)
      · rw [if_neg c3]; exact new (Or.inr ⟨ee, c3⟩)
theorem mL_inv {P F : Nat → Int32} (hP : ∀ k, ¬ P k = -1) : ∀ (r k : Nat) (s : Int32 × Int32 × Int32), mI P F k s → mI P F (k + r) (mL P F r k s) := by
  intro r
  induction r with
  | zero => intro k s h; exact h
  | succ r ih =>
    intro k s h
    have := ih (k + 1) _ (mS_inv hP h)
    rw [show k + 1 + r = k + (r + 1) by omega] at this
    exact this
theorem mL_same {P F : Nat → Int32} {s : Int32 × Int32 × Int32} (hs : ¬ s.1 = -1) : ∀ (r k : Nat), (∀ j, k ≤ j → j < k + r → s.1 ≤ P j ∧ (P j = s.1 → s.2.1 ≤ F j)) → mL P F r k s = s := by
  intro r
  induction r with
  | zero => intro k _; rfl
  | succ r ih =>
    intro k h
    have e : mS P F k s = s := by
      have hk := h k (Nat.le_refl _) (by omega)
      unfold mS
      rw [if_neg hs]
      by_cases c1 : s.1 < P k
      · rw [if_pos c1]
      · have ee : P k = s.1 := Int32.toInt_inj.mp (by have := hk.1; rw [i32_le] at this; rw [i32_lt] at c1; omega)
        rw [if_neg c1, if_neg (by rw [ee, i32_lt]; omega), if_pos (hk.2 ee)]
    show mL P F r (k + 1) (mS P F k s) = s
    rw [e]
    exact ih (k + 1) (fun j a b => h j (by omega) (by omega))
theorem F_ls {n : Nat} (hn : 1 ≤ n) (hn2 : n ≤ 12) : ∀ (r k : Nat) (s : Int32 × Int32 × Int32), k + r ≤ 2 ^ n → ¬ s.1 = -1 → F_X4_leastSided_27 n r k s.2.2 s.1 s.2.1 = (mL (gP n) (gF n) r k s).2.2 := by
  intro r
  induction r with
  | zero => intro k s _ _; rw [F_X4_leastSided_27]; rfl
  | succ r ih =>
    intro k s hk hs
    have a := pk4 (k := k) hn hn2 (by omega) s.1
    have b := fl4 (k := k) hn hn2 (by omega)
    show _ = (mL (gP n) (gF n) r (k + 1) (mS (gP n) (gF n) k s)).2.2
    rw [F_X4_leastSided_27, b]
    unfold mS
    rw [if_neg hs]
    by_cases c : gP n k ≤ s.1
    · rw [if_pos (a.1.mpr c), a.2 c, if_neg (show ¬ s.1 < gP n k by rw [i32_lt]; rw [i32_le] at c; omega)]
      by_cases c2 : gP n k < s.1
      · rw [if_pos c2, if_pos c2]
        exact ih (k + 1) (gP n k, gF n k, nI k) (by omega) (gP_0 hn hn2)
      · rw [if_neg c2, if_neg c2]
        by_cases c3 : s.2.1 ≤ gF n k
        · rw [if_pos c3, if_pos c3]; exact ih (k + 1) s (by omega) hs
        · rw [if_neg c3, if_neg c3]
          exact ih (k + 1) (gP n k, gF n k, nI k) (by omega) (gP_0 hn hn2)
    · rw [if_neg (fun q => c (a.1.mp q)), if_pos (show s.1 < gP n k by rw [i32_lt]; rw [i32_le] at c; omega)]
      exact ih (k + 1) s (by omega) hs
set_option maxRecDepth 100000 in
theorem pk_tab : ∀ n : Fin 13, fX4_peakOf 0 n.val (nI n.val * nI n.val) ≤ nI n.val * nI n.val := by decide +kernel
/-- what both searches find -/
theorem ls_end {n : Nat} (hn : 1 ≤ n) (hn2 : n ≤ 12) : ∃ j, j < 2 ^ n ∧ fX4_leastSided n = nI j ∧ mL (gP n) (gF n) (2 ^ n - 0) 0 (-1, 0, 0) = (gP n j, gF n j, nI j) := by
  have h2 : 2 ^ n = 2 * 2 ^ (n - 1) := by
    rw [show n = (n - 1) + 1 by omega, Nat.pow_succ]
    show _ = 2 * 2 ^ (n - 1 + 1 - 1)
    rw [show n - 1 + 1 - 1 = n - 1 by omega]; omega
  have h0 : 1 ≤ 2 ^ (n - 1) := Nat.one_le_two_pow
  have hi : mI (gP n) (gF n) 1 (gP n 0, gF n 0, nI 0) := ⟨⟨0, by omega, rfl⟩, fun j hj => by
    have : j = 0 := by omega
    subst this
    exact ⟨i_rf _, fun _ => i_rf _⟩⟩
  have hP : ∀ k, ¬ gP n k = -1 := fun k => gP_0 hn hn2
  have hl := mL_inv hP (2 ^ (n - 1) - 1) 1 _ hi
  have ec : fX4_leastSided n = (mL (gP n) (gF n) (2 ^ (n - 1) - 1) 1 (gP n 0, gF n 0, nI 0)).2.2 := by
    unfold fX4_leastSided
    have p := pk4 (k := 0) hn hn2 (by omega) (nI n * nI n)
    have p1 : fX4_peakOf (nI 0) n (nI n * nI n) ≤ nI n * nI n := pk_tab ⟨n, by omega⟩
    have p2 : fX4_peakOf 0 n (nI n * nI n) = gP n 0 := p.2 (p.1.mp p1)
    have p3 : fX4_flankOf 0 n = gF n 0 := fl4 (k := 0) hn hn2 (by omega)
    rw [p2, p3]
    exact F_ls hn hn2 (2 ^ (n - 1) - 1) 1 (gP n 0, gF n 0, nI 0) (by omega) (hP 0)
  have em : mL (gP n) (gF n) (2 ^ n - 0) 0 (-1, 0, 0) = mL (gP n) (gF n) (2 ^ (n - 1) - 1) 1 (gP n 0, gF n 0, nI 0) := by
    rw [show 2 ^ n - 0 = ((2 ^ (n - 1) - 1) + 2 ^ (n - 1)) + 1 by omega]
    show mL (gP n) (gF n) ((2 ^ (n - 1) - 1) + 2 ^ (n - 1)) (0 + 1) (mS (gP n) (gF n) 0 (-1, 0, 0)) = _
    have : mS (gP n) (gF n) 0 (-1, 0, 0) = (gP n 0, gF n 0, nI 0) := by unfold mS; rw [if_pos rfl]
    rw [this, mL_add]
    have q := hl
    obtain ⟨⟨j, hj, ej⟩, hm⟩ := q
    refine mL_same (by rw [ej]; exact hP j) _ _ (fun i a b => ?_)
    have m1 := mirP (k := 2 ^ n - (i + 1)) hn hn2 (by omega)
    have m2 := mirF (k := 2 ^ n - (i + 1)) hn hn2 (by omega)
    rw [show 2 ^ n - (2 ^ n - (i + 1) + 1) = i by omega] at m1 m2
    have := hm (2 ^ n - (i + 1)) (by omega)
    rw [← m1, ← m2] at this
    exact this
  obtain ⟨⟨j, hj, ej⟩, hm⟩ := hl
  refine ⟨j, by omega, ?_, ?_⟩
  · rw [ec, ej]
  · rw [em, ej]
theorem F_take (b : Int32) (n : Nat) : ∀ (r k : Nat) (tr : Nat → Int32), F_X5_takeBits_7 b n r k tr = (n, filF tr (fun i => ((b >>> ((((nI n) - 1) - (nI i)) &&& 31)) &&& 1) * 2) k r) := by
  intro r
  induction r with
  | zero => intro k tr; rw [F_X5_takeBits_7, filF_0]
  | succ r ih => intro k tr; rw [F_X5_takeBits_7, ih, filF_s (g := fun i => ((b >>> ((((nI n) - 1) - (nI i)) &&& 31)) &&& 1) * 2)]
def lyg (ca n : Nat) (cd : Int32) : Nat → Int32 := fun i => if nI n ≤ nI (i - 16 * ca) then 0 else 2 * ((cd >>> ((((nI n) - 1) - (nI (i - 16 * ca))) &&& 31)) &&& 1)
theorem F_lay (ca n : Nat) (cd : Int32) : ∀ (r k : Nat) (tu : Nat → Int32), F_X7_lay_3 ca n cd r k tu = filF tu (lyg ca n cd) (16 * ca + k) r := by
  intro r
  induction r with
  | zero => intro k tu; rw [F_X7_lay_3, filF_0]
  | succ r ih =>
    intro k tu
    have eg : lyg ca n cd (16 * ca + k) = if nI n ≤ nI k then 0 else 2 * ((cd >>> ((((nI n) - 1) - (nI k)) &&& 31)) &&& 1) := by
      unfold lyg
      rw [show 16 * ca + k - 16 * ca = k by omega]
    rw [F_X7_lay_3, ← filF_s, eg]
    by_cases c : nI n ≤ nI k
    · rw [if_pos c, if_pos c, ih]; rfl
    · rw [if_neg c, if_neg c, ih]; rfl
theorem lay_in {tu : Nat → Int32} {ca n k i : Nat} (hn2 : n ≤ 12) (hi : i < n) (hk : k < 4096) : fX7_lay tu ca n (nI k) (16 * ca + i) = sb n k i := by
  unfold fX7_lay
  rw [F_lay, filF_in (by omega) (by omega)]
  unfold lyg sb
  rw [show 16 * ca + i - 16 * ca = i by omega, if_neg (fun q => by have := (nI_leI (by omega) (by omega)).mp q; omega), bit_at hn2 hi hk]
  exact pk_mul 2 _
theorem lay_out {tu : Nat → Int32} {ca n j : Nat} {cd : Int32} (h : j < 16 * ca ∨ 16 * ca + 16 ≤ j) : fX7_lay tu ca n cd j = tu j := by
  unfold fX7_lay
  rw [F_lay, filF_out (by omega)]
theorem RS_lay {tr : Nat → Nat → Int32} {ln sn : Nat → Nat} {tu0 tu : Nat → Int32} (h : RS tr ln sn tu0) {ca n k : Nat} (hc : ca < 6) (hn : 1 ≤ n) (hn2 : n ≤ 12) (hk : k < 4096) {R : Nat → Int32} (hR : ∀ i, i < n → R i = sb n k i) (ag : ∀ j, (j < 16 * ca ∨ 16 * ca + 16 ≤ j) → tu j = tu0 j) :
    RS (upR tr ca R) (updN ln ca n) (updN sn ca n) (fX7_lay tu ca n (nI k)) := by
  refine ⟨fun c hc => ?_, fun c i hc hi => ?_, fun c i hc hi => ?_⟩
  · unfold updN
    by_cases e : c = ca
    · rw [if_pos e, if_pos e]; omega
    · rw [if_neg e, if_neg e]; exact h.1 c hc
  · unfold updN at hi
    unfold upR
    by_cases e : c = ca
    · subst e
      rw [if_pos rfl] at hi
      rw [if_pos rfl, lay_in hn2 hi hk, hR i hi]
    · rw [if_neg e] at hi
      have := (h.1 c hc).2.2
      rw [if_neg e, lay_out (by omega), ag _ (by omega)]
      exact h.2.1 c i hc hi
  · unfold updN at hi
    unfold upR
    by_cases e : c = ca
    · subst e
      rw [if_pos rfl] at hi
      rw [if_pos rfl, hR i hi]
      unfold sb
      exact ⟨2 * (k.testBit (n - 1 - i)).toNat, by have := Bool.toNat_le (k.testBit (n - 1 - i)); omega, rfl⟩
    · rw [if_neg e] at hi
      rw [if_neg e]
      exact h.2.2 c i hc hi
theorem F_best {tr : Nat → Nat → Int32} {ln sn : Nat → Nat} {tu0 : Nat → Int32} (h : RS tr ln sn tu0) (bs : Nat) {ca n : Nat} (hc : ca < 6) (hn : 1 ≤ n) (hn2 : n ≤ 12) : ∀ (r k : Nat) (s : Int32 × Int32 × Int32) (tu : Nat → Int32) (re ot : Int32), k + r ≤ 4096 → (∀ j, (j < 16 * ca ∨ 16 * ca + 16 ≤ j) → tu j = tu0 j) →
    ∃ (tu' : Nat → Int32) (re' ot' : Int32), (∀ j, (j < 16 * ca ∨ 16 * ca + 16 ≤ j) → tu' j = tu0 j) ∧ F_X7_best_63 sn bs ca n r k s.1 s.2.1 s.2.2 tu re ot = ((mL (gP n) (gF n) r k s).1, updN sn ca n, fX7_lay tu' ca n (mL (gP n) (gF n) r k s).2.2, bs + 1, re', ot') := by
  intro r
  induction r with
  | zero => intro k s tu re ot _ ag; exact ⟨tu, re, ot, ag, by rw [F_X7_best_63]; rfl⟩
  | succ r ih =>
    intro k s tu re ot hk ag
    have hRS := RS_lay h hc hn hn2 (k := k) (by omega) (R := sb n k) (fun _ _ => rfl) ag
    have ag' : ∀ j, (j < 16 * ca ∨ 16 * ca + 16 ≤ j) → fX7_lay tu ca n (nI k) j = tu0 j := fun j hj => by rw [lay_out hj]; exact ag j hj
    have eP : ∀ re ot, (fX7_peakOf (updN sn ca n) (fX7_lay tu ca n (nI k)) re ot ca).1 = gP n k := fun re ot => by
      rw [e_peakOf hRS hc, upR_at, updN_at]; rfl
    have eF : ∀ re ot, (fX7_flankOf (updN sn ca n) (fX7_lay tu ca n (nI k)) re ot ca).1 = gF n k := fun re ot => by
      rw [e_flankOf hRS hc, upR_at, updN_at]; rfl
    have ih := fun s re ot => ih (k + 1) s (fX7_lay tu ca n (nI k)) re ot (by omega) ag'
    show ∃ (tu' : Nat → Int32) (re' ot' : Int32), _ ∧ F_X7_best_63 sn bs ca n (r + 1) k s.1 s.2.1 s.2.2 tu re ot = ((mL (gP n) (gF n) r (k + 1) (mS (gP n) (gF n) k s)).1, updN sn ca n, fX7_lay tu' ca n (mL (gP n) (gF n) r (k + 1) (mS (gP n) (gF n) k s)).2.2, bs + 1, re', ot')
    rw [F_X7_best_63]
    unfold mS
    by_cases c0 : s.1 = -1
    · rw [if_pos c0, if_pos c0, if_pos c0, eP, eF]
      exact ih (gP n k, gF n k, nI k) _ _
    · rw [if_neg c0, if_neg c0, if_neg c0]
      by_cases c1 : s.1 < gP n k
      · rw [if_pos (show s.1 < (fX7_peakOf (updN sn ca n) (fX7_lay tu ca n (nI k)) re ot ca).1 by rw [eP]; exact c1), if_pos c1]
        exact ih s _ _
      · rw [if_neg (show ¬ s.1 < (fX7_peakOf (updN sn ca n) (fX7_lay tu ca n (nI k)) re ot ca).1 by rw [eP]; exact c1), if_neg c1]
        by_cases c2 : gP n k < s.1
        · rw [if_pos (show (fX7_peakOf (updN sn ca n) (fX7_lay tu ca n (nI k)) re ot ca).1 < s.1 by rw [eP]; exact c2), if_pos c2, eP, eF]
          exact ih (gP n k, gF n k, nI k) _ _
        · rw [if_neg (show ¬ (fX7_peakOf (updN sn ca n) (fX7_lay tu ca n (nI k)) re ot ca).1 < s.1 by rw [eP]; exact c2), if_neg c2]
          by_cases c3 : s.2.1 ≤ gF n k
          · rw [if_pos (show s.2.1 ≤ (fX7_flankOf (updN sn ca n) (fX7_lay tu ca n (nI k)) _ _ ca).1 by rw [eF]; exact c3), if_pos c3]
            exact ih s _ _
          · rw [if_neg (show ¬ s.2.1 ≤ (fX7_flankOf (updN sn ca n) (fX7_lay tu ca n (nI k)) _ _ ca).1 by rw [eF]; exact c3), if_neg c3, eP, eF]
            exact ih (gP n k, gF n k, nI k) _ _
theorem e_best {tr : Nat → Nat → Int32} {ln sn : Nat → Nat} {tu : Nat → Int32} (h : RS tr ln sn tu) {sr bs : Nat} (hs : sr = bs) (hb : bs ≤ 30) (re ot xc xn : Int32) :
    (fX6_best tr ln sr xc xn).1 = (fX7_best sn tu bs re ot xc xn).1 ∧ RS (fX6_best tr ln sr xc xn).2.1 (fX6_best tr ln sr xc xn).2.2.1 (fX7_best sn tu bs re ot xc xn).2.1 (fX7_best sn tu bs re ot xc xn).2.2.1 ∧ (fX6_best tr ln sr xc xn).2.2.2 = (fX7_best sn tu bs re ot xc xn).2.2.2.1 ∧ (fX7_best sn tu bs re ot xc xn).2.2.2.1 ≤ 30 := by
  subst hs
  unfold fX6_best fX7_best
  rw [s_in]
  by_cases c1 : fX7_isSign xc = 0
  · rw [if_pos c1, if_pos c1]; exact ⟨rfl, h, rfl, hb⟩
  rw [if_neg c1, if_neg c1, w_in]
  by_cases c2 : fX7_in xn 1 12 = 0
  · rw [if_pos c2, if_pos c2]; exact ⟨rfl, h, rfl, hb⟩
  rw [if_neg c2, if_neg c2]
  by_cases c3 : sr = 30
  · rw [if_neg (fun q => by have := (nI_ltI (a := sr) (b := 30) (by omega) (by omega)).mp q; omega), if_pos (show nI sr = 30 by rw [c3]; rfl)]
    exact ⟨rfl, h, rfl, hb⟩
  rw [if_pos (show nI sr < 30 from (nI_ltI (a := sr) (b := 30) (by omega) (by omega)).mpr (by omega)), if_neg (show ¬ nI sr = 30 from fun q => by have := (nI_eq (a := sr) (b := 30) (by omega) (by omega)).mp q; omega)]
  obtain ⟨ca, hca, rfl⟩ := sign_nat c1
  obtain ⟨n, hn, hn2, rfl⟩ := in_nat (a := 1) (b := 12) c2 (by omega)
  rw [nI_clamp (by omega), nI_clamp (by omega)]
  obtain ⟨j, hj, e1, e2⟩ := ls_end hn hn2
  have h12 := p2 hn2
  obtain ⟨tu', re', ot', ag, e3⟩ := F_best h sr (ca := ca) (by omega) hn hn2 (2 ^ n - 0) 0 (-1, 0, 0) tu re ot (by omega) (fun _ _ => rfl)
  have e3 : F_X7_best_63 sn sr ca n (2 ^ n - 0) 0 (-1) 0 0 tu re ot = _ := e3
  rw [e3, e2, e1]
  have et : fX5_takeBits (tr ca) (nI j) n = (n, filF (tr ca) (fun i => (((nI j) >>> ((((nI n) - 1) - (nI i)) &&& 31)) &&& 1) * 2) 0 n) := F_take (nI j) n (n - 0) 0 (tr ca)
  rw [et]
  have hR : ∀ i, i < n → filF (tr ca) (fun i => (((nI j) >>> ((((nI n) - 1) - (nI i)) &&& 31)) &&& 1) * 2) 0 n i = sb n j i := fun i hi => by
    rw [filF_in (by omega) (by omega), bit_at hn2 hi (by omega)]
    unfold sb
    rw [Nat.mul_comm]
    exact pk_mul _ 2
  have r1 := RS_lay h (ca := ca) (by omega) hn hn2 (k := j) (by omega) hR ag
  have r2 := RS_lay h (ca := ca) (by omega) hn hn2 (k := j) (by omega) (R := sb n j) (fun _ _ => rfl) ag
  refine ⟨?_, r1, rfl, by show sr + 1 ≤ 30; omega⟩
  have q1 := e_peakOf r1 (a := ca) (by omega) 0 0
  have q2 := e_peakOf r2 (a := ca) (by omega) 0 0
  rw [upR_at, updN_at] at q2
  show fX5_greatestSide (upR tr ca _ ca) (updN ln ca n ca) = gP n j
  exact q1.symm.trans q2
