/-! best: the class's search over half of the codes by bits, against the reference's over all of them by looks. -/
theorem s_l : ∀ n, n < 32 → ((nI n &&& 31).toBitVec.smod 32).toNat = n := by decide +kernel
theorem nx_xor (a b : Nat) : nI a ^^^ nI b = nI (a ^^^ b) := by
  apply Int32.toBitVec_inj.1
  show BitVec.ofNat 32 a ^^^ BitVec.ofNat 32 b = BitVec.ofNat 32 (a ^^^ b)
  apply BitVec.eq_of_getLsbD_eq
  intro i hi
  simp [hi]
set_option maxRecDepth 100000 in
theorem bc_tab : ∀ a b : Fin 64, fJ6_bitCount_0f7a4 (nI (64 * a.val + b.val)) = nI (cn (fun p => ((64 * a.val + b.val).testBit p).toNat) 12) := by decide +kernel
theorem bc_at {m : Nat} (h : m < 4096) : fJ6_bitCount_0f7a4 (nI m) = nI (cn (fun p => (m.testBit p).toNat) 12) := by
  have e := bc_tab ⟨m / 64, by omega⟩ ⟨m % 64, by omega⟩
  have e2 : 64 * (m / 64) + m % 64 = m := by omega
  simp only [e2] at e
  exact e
/-- the sign of a code: the front is the highest bit -/
def sb (n k : Nat) : Nat → Int32 := fun i => nI (2 * (k.testBit (n - 1 - i)).toNat)
def df (k g : Nat) : Nat → Nat := fun p => (k.testBit p ^^ k.testBit (p + g)).toNat
theorem p2 {n : Nat} (h : n ≤ 12) : 2 ^ n ≤ 4096 := by
  have : 2 ^ n ≤ 2 ^ 12 := Nat.pow_le_pow_right (by omega) h
  omega
theorem bit_at {n k i : Nat} (hn : n ≤ 12) (hi : i < n) (hk : k < 4096) : (nI k >>> (((nI n - 1) - nI i) &&& 31)) &&& 1 = nI ((k.testBit (n - 1 - i)).toNat) := by
  have e1 : nI n - 1 = nI (n - 1) := pk_sub (b := 1) (by omega)
  rw [e1, pk_sub (by omega), pk_shrN (by omega) _ (n - 1 - i) (s_l _ (by omega)), pk_andN (Nat.lt_of_le_of_lt (Nat.div_le_self _ _) (by omega)) 1 rfl, Nat.toNat_testBit]
theorem rg1 (x m c : Int32) : x + 1 + (m - 2 * c) = x + (m + 1 - 2 * c) := by grind
theorem rg2 (x m c : Int32) : x + (-1) + (m - 2 * c) = x + (m + 1 - 2 * (c + 1)) := by grind
theorem part_tab : ∀ a b : Bool, fX6_partOfTurn (nI (2 * a.toNat) - nI (2 * b.toNat)) 0 = (if a = b then 1 else -1) ∧ fX6_partOfTurn (nI (2 * a.toNat) - nI (2 * b.toNat)) 1 = 0 := by decide +kernel
theorem has_at {n v : Nat} (hn : 1 ≤ n) (hn2 : n < 1000) (hv : v < 1000) : fX5_has n (nI v) = 0 ↔ n ≤ v := by
  rw [h_in]
  have e1 : nI n - 1 = nI (n - 1) := pk_sub (b := 1) (by omega)
  rw [e1]
  constructor
  · intro q
    refine Classical.byContradiction fun q2 => ?_
    exact in_iff.mpr ⟨nI_pos' (by omega), (nI_leI (by omega) (by omega)).mpr (by omega)⟩ q
  · intro q
    refine Classical.byContradiction fun q2 => ?_
    have := (nI_leI (by omega) (by omega)).mp (in_iff.mp q2).2
    omega
theorem lp_0 {n k g : Nat} (hn : 1 ≤ n) (hn2 : n ≤ 12) (hg : g < n) : ∀ (r i : Nat) (x : Int32), i + r = n → F_X5_lookPart_6 (sb n k) (sb n k) n (nI g) 0 0 r i x = x + (nI (n - g - i) - 2 * nI (cn (df k g) (n - g - i))) ∧ F_X5_lookPart_6 (sb n k) (sb n k) n (nI g) 0 1 r i x = x := by
  intro r
  induction r with
  | zero =>
    intro i x hi
    rw [F_X5_lookPart_6, F_X5_lookPart_6, show n - g - i = 0 by omega]
    exact ⟨by show x = x + (0 - 2 * 0); grind, rfl⟩
  | succ r ih =>
    intro i x hi
    rw [F_X5_lookPart_6, F_X5_lookPart_6, nI_add]
    by_cases c : n ≤ i + g
    · have c' := (has_at hn (by omega) (by omega)).mpr c
      rw [if_pos c', if_pos c']
      have := ih (i + 1) x (by omega)
      rw [show n - g - (i + 1) = 0 by omega] at this
      rw [show n - g - i = 0 by omega]
      exact this
    · have c' : ¬ fX5_has n (nI (i + g)) = 0 := fun q => c ((has_at hn (by omega) (by omega)).mp q)
      rw [if_neg c', if_neg c', nI_clamp (by omega), Int32.zero_mul, Int32.add_zero]
      have e1 : sb n k i = nI (2 * (k.testBit ((n - g - (i + 1)) + g)).toNat) := by
        unfold sb
        rw [show n - 1 - i = n - g - (i + 1) + g by omega]
      have e2 : sb n k (i + g) = nI (2 * (k.testBit (n - g - (i + 1))).toNat) := by
        unfold sb
        rw [show n - 1 - (i + g) = n - g - (i + 1) by omega]
      have pt := part_tab (k.testBit ((n - g - (i + 1)) + g)) (k.testBit (n - g - (i + 1)))
      rw [e1, e2, pt.1, pt.2]
      rw [show n - g - i = (n - g - (i + 1)) + 1 by omega]
      have e3 : cn (df k g) ((n - g - (i + 1)) + 1) = cn (df k g) (n - g - (i + 1)) + df k g (n - g - (i + 1)) := rfl
      refine ⟨?_, ?_⟩
      · rw [(ih (i + 1) _ (by omega)).1, e3]
        unfold df
        cases k.testBit ((n - g - (i + 1)) + g) <;> cases k.testBit (n - g - (i + 1))
        · rw [if_pos rfl]
          show x + 1 + (nI _ - 2 * nI _) = x + (nI (_ + 1) - 2 * nI (_ + 0))
          rw [nI_succ, rg1]; rfl
        · rw [if_neg (by decide)]
          show x + (-1) + (nI _ - 2 * nI _) = x + (nI (_ + 1) - 2 * nI (_ + 1))
          rw [nI_succ, nI_succ, rg2]
        · rw [if_neg (by decide)]
          show x + (-1) + (nI _ - 2 * nI _) = x + (nI (_ + 1) - 2 * nI (_ + 1))
          rw [nI_succ, nI_succ, rg2]
        · rw [if_pos rfl]
          show x + 1 + (nI _ - 2 * nI _) = x + (nI (_ + 1) - 2 * nI (_ + 0))
          rw [nI_succ, rg1]; rfl
      · rw [Int32.add_zero]
        exact (ih (i + 1) x (by omega)).2
def sq (n k g : Nat) : Int32 := (nI (n - g) - 2 * nI (cn (df k g) (n - g))) * (nI (n - g) - 2 * nI (cn (df k g) (n - g)))
theorem own_sq {n k g : Nat} (hn : 1 ≤ n) (hn2 : n ≤ 12) (hg : g < n) : fX5_ownLookSize (sb n k) n (nI g) 0 = sq n k g := by
  have h := lp_0 (k := k) hn hn2 hg (n - 0) 0 0 (by omega)
  unfold fX5_ownLookSize fX5_lookPart
  rw [h.1, h.2, Nat.sub_zero]
  unfold sq
  generalize nI (n - g) - 2 * nI (cn (df k g) (n - g)) = y
  grind
theorem cn_end {f : Nat → Nat} {t : Nat} : ∀ {n : Nat}, t ≤ n → (∀ i, t ≤ i → i < n → f i = 0) → cn f n = cn f t
  | 0, a, _ => by
    have : t = 0 := by omega
    subst this
    rfl
  | n + 1, a, h => by
    by_cases q : t = n + 1
    · subst q; rfl
    · show cn f n + f n = cn f t
      rw [cn_end (by omega) (fun i a b => h i a (by omega)), h n (by omega) (by omega), Nat.add_zero]
theorem side_sq {n k g : Nat} (hn2 : n ≤ 12) (hg : g < n) (hk : k < 2 ^ n) : fX4_side (nI k) (nI n) (nI g) = sq n k g := by
  have h12 := p2 hn2
  have hm : (nI k ^^^ (nI k >>> (nI g &&& 31))) &&& (((1 : Int32) <<< ((nI n - nI g) &&& 31)) - 1) = nI ((k ^^^ (k / 2 ^ g)) % 2 ^ (n - g)) := by
    have hp : 2 ^ (n - g) ≤ 4096 := p2 (by omega)
    have h0 : 1 ≤ 2 ^ (n - g) := Nat.one_le_two_pow
    have hx : k ^^^ (k / 2 ^ g) < 2 ^ 12 := Nat.xor_lt_two_pow (by omega) (Nat.lt_of_le_of_lt (Nat.div_le_self _ _) (by omega))
    rw [pk_shrN (by omega) _ g (s_l _ (by omega)), nx_xor, pk_sub (by omega)]
    have e1 : (1 : Int32) <<< (nI (n - g) &&& 31) = nI (2 ^ (n - g)) := by
      have := pk_shlN (n := 1) (nI (n - g) &&& 31) (n - g) (s_l _ (by omega)) (by omega)
      rw [Nat.one_mul] at this
      exact this
    rw [e1]
    have e2 : nI (2 ^ (n - g)) - 1 = nI (2 ^ (n - g) - 1) := pk_sub (b := 1) (by omega)
    rw [e2, pk_andN (by omega) (n - g) (pk_tn (by omega))]
  have hb : fJ6_bitCount_0f7a4 ((nI k ^^^ (nI k >>> (nI g &&& 31))) &&& (((1 : Int32) <<< ((nI n - nI g) &&& 31)) - 1)) = nI (cn (df k g) (n - g)) := by
    have hp : 2 ^ (n - g) ≤ 4096 := p2 (by omega)
    have h0 : 1 ≤ 2 ^ (n - g) := Nat.one_le_two_pow
    rw [hm, bc_at (Nat.lt_of_lt_of_le (Nat.mod_lt _ (by omega)) hp)]
    have e1 : ∀ p, (((k ^^^ (k / 2 ^ g)) % 2 ^ (n - g)).testBit p).toNat = if p < n - g then df k g p else 0 := by
      intro p
      rw [Nat.testBit_mod_two_pow, Nat.testBit_xor, Nat.testBit_div_two_pow]
      unfold df
      by_cases q : p < n - g
      · rw [if_pos q, decide_eq_true q, Bool.true_and]
      · rw [if_neg q, decide_eq_false q, Bool.false_and]; rfl
    rw [cn_end (t := n - g) (by omega) (fun i a _ => by rw [e1 i, if_neg (by omega)])]
    rw [cn_congr (f := fun p => (((k ^^^ (k / 2 ^ g)) % 2 ^ (n - g)).testBit p).toNat) (g := df k g) (fun i hi => by rw [e1 i, if_pos hi])]
  unfold fX4_side sq
  rw [hb, pk_sub (by omega)]
theorem sq_mir {n k g : Nat} (hg : g < n) (hk : k < 2 ^ n) : sq n (2 ^ n - (k + 1)) g = sq n k g := by
  have : cn (df (2 ^ n - (k + 1)) g) (n - g) = cn (df k g) (n - g) := by
    refine cn_congr (fun p hp => ?_)
    unfold df
    rw [Nat.testBit_two_pow_sub_succ hk, Nat.testBit_two_pow_sub_succ hk, decide_eq_true (show p < n by omega), decide_eq_true (show p + g < n by omega)]
    cases k.testBit p <;> cases k.testBit (p + g) <;> rfl
  unfold sq
  rw [this]
def gP (n k : Nat) : Int32 := fX5_greatestSide (sb n k) n
def gF (n k : Nat) : Int32 := fX5_sumOfSides (sb n k) n
def GP (n k : Nat) : Nat → Nat → Int32 → Int32
  | 0, _, x => x
  | r + 1, g, x => GP n k r (g + 1) (if x < sq n k g then sq n k g else x)
def GF (n k : Nat) : Nat → Nat → Int32 → Int32
  | 0, _, x => x
  | r + 1, g, x => GF n k r (g + 1) (x + sq n k g)
theorem gP_eq {n k : Nat} (hn : 1 ≤ n) (hn2 : n ≤ 12) : ∀ (r g : Nat) (x : Int32), g + r ≤ n → F_X5_greatestSide_4 (sb n k) n r g x = GP n k r g x := by
  intro r
  induction r with
  | zero => intro g x _; rw [F_X5_greatestSide_4, GP]
  | succ r ih => intro g x h; rw [F_X5_greatestSide_4, GP, own_sq hn hn2 (by omega)]; exact ih _ _ (by omega)
theorem gF_eq {n k : Nat} (hn : 1 ≤ n) (hn2 : n ≤ 12) : ∀ (r g : Nat) (x : Int32), g + r ≤ n → F_X5_sumOfSides_4 (sb n k) n r g x = GF n k r g x := by
  intro r
  induction r with
  | zero => intro g x _; rw [F_X5_sumOfSides_4, GF]
  | succ r ih => intro g x h; rw [F_X5_sumOfSides_4, GF, own_sq hn hn2 (by omega)]; exact ih _ _ (by omega)
theorem gP_mir {n k : Nat} (hk : k < 2 ^ n) : ∀ (r g : Nat) (x : Int32), g + r ≤ n → GP n (2 ^ n - (k + 1)) r g x = GP n k r g x := by
  intro r
  induction r with
  | zero => intro g x _; rw [GP, GP]
  | succ r ih => intro g x h; rw [GP, GP, sq_mir (by omega) hk]; exact ih _ _ (by omega)
theorem gF_mir {n k : Nat} (hk : k < 2 ^ n) : ∀ (r g : Nat) (x : Int32), g + r ≤ n → GF n (2 ^ n - (k + 1)) r g x = GF n k r g x := by
  intro r
  induction r with
  | zero => intro g x _; rw [GF, GF]
  | succ r ih => intro g x h; rw [GF, GF, sq_mir (by omega) hk]; exact ih _ _ (by omega)
theorem GP_ge {n k : Nat} : ∀ (r g : Nat) (x : Int32), x ≤ GP n k r g x := by
  intro r
  induction r with
  | zero => intro g x; rw [GP, i32_le]; omega
  | succ r ih =>
    intro g x
    rw [GP]
    have := ih (g + 1) (if x < sq n k g then sq n k g else x)
    refine i_tr ?_ this
    by_cases c : x < sq n k g
    · rw [if_pos c]; rw [i32_lt] at c; rw [i32_le]; omega
    · rw [if_neg c, i32_le]; omega
theorem F_pk4 {n k : Nat} (hn2 : n ≤ 12) (hk : k < 2 ^ n) (lm : Int32) : ∀ (r g : Nat) (x : Int32), g + r ≤ n → (F_X4_peakOf_5 (nI k) n lm r g x ≤ lm ↔ GP n k r g x ≤ lm) ∧ (GP n k r g x ≤ lm → F_X4_peakOf_5 (nI k) n lm r g x = GP n k r g x) := by
  intro r
  induction r with
  | zero => intro g x _; rw [F_X4_peakOf_5, GP]; exact ⟨Iff.rfl, fun _ => rfl⟩
  | succ r ih =>
    intro g x h
    rw [F_X4_peakOf_5, side_sq hn2 (by omega) hk]
    by_cases c : lm < x
    · rw [if_pos c]
      have h1 : ¬ x ≤ lm := by rw [i32_lt] at c; rw [i32_le]; omega
      have h2 : ¬ GP n k (r + 1) g x ≤ lm := fun q => h1 (i_tr (GP_ge (r + 1) g x) q)
      exact ⟨⟨fun q => absurd q h1, fun q => absurd q h2⟩, fun q => absurd q h2⟩
    · rw [if_neg c, GP]
      exact ih (g + 1) _ (by omega)
theorem F_fl4 {n k : Nat} (hn2 : n ≤ 12) (hk : k < 2 ^ n) : ∀ (r g : Nat) (x : Int32), g + r ≤ n → F_X4_flankOf_4 (nI k) n r g x = GF n k r g x := by
  intro r
  induction r with
  | zero => intro g x _; rw [F_X4_flankOf_4, GF]
  | succ r ih => intro g x h; rw [F_X4_flankOf_4, GF, side_sq hn2 (by omega) hk]; exact ih _ _ (by omega)
theorem pk4 {n k : Nat} (hn : 1 ≤ n) (hn2 : n ≤ 12) (hk : k < 2 ^ n) (lm : Int32) : (fX4_peakOf (nI k) n lm ≤ lm ↔ gP n k ≤ lm) ∧ (gP n k ≤ lm → fX4_peakOf (nI k) n lm = gP n k) := by
  unfold fX4_peakOf gP fX5_greatestSide
  rw [gP_eq hn hn2 _ _ _ (by omega)]
  exact F_pk4 hn2 hk lm (n - 1) 1 0 (by omega)
theorem fl4 {n k : Nat} (hn : 1 ≤ n) (hn2 : n ≤ 12) (hk : k < 2 ^ n) : fX4_flankOf (nI k) n = gF n k := by
  unfold fX4_flankOf gF fX5_sumOfSides
  rw [gF_eq hn hn2 _ _ _ (by omega)]
  exact F_fl4 hn2 hk (n - 1) 1 0 (by omega)
theorem mirP {n k : Nat} (hn : 1 ≤ n) (hn2 : n ≤ 12) (hk : k < 2 ^ n) : gP n (2 ^ n - (k + 1)) = gP n k := by
  unfold gP fX5_greatestSide
  rw [gP_eq hn hn2 _ _ _ (by omega), gP_eq hn hn2 _ _ _ (by omega), gP_mir hk _ _ _ (by omega)]
theorem mirF {n k : Nat} (hn : 1 ≤ n) (hn2 : n ≤ 12) (hk : k < 2 ^ n) : gF n (2 ^ n - (k + 1)) = gF n k := by
  unfold gF fX5_sumOfSides
  rw [gF_eq hn hn2 _ _ _ (by omega), gF_eq hn hn2 _ _ _ (by omega), gF_mir hk _ _ _ (by omega)]
theorem gP_0 {n k : Nat} (hn : 1 ≤ n) (hn2 : n ≤ 12) : ¬ gP n k = -1 := by
  have : (0 : Int32) ≤ gP n k := by
    unfold gP fX5_greatestSide
    rw [gP_eq hn hn2 _ _ _ (by omega)]
    exact GP_ge _ _ _
  intro q
  rw [q] at this
  exact absurd this (by decide)
