theorem mixAll_al {f g : Nat → Int32} : ∀ (r k : Nat) (z : Int64), (∀ i, k ≤ i → i < k + r → f i = g i) → F_X6_mixAll_6 f r k z = F_X6_mixAll_6 g r k z := by
  intro r
  induction r with
  | zero => intro k z h; rw [F_X6_mixAll_6, F_X6_mixAll_6]
  | succ r ih =>
    intro k z h
    rw [F_X6_mixAll_6, F_X6_mixAll_6, h k (by omega) (by omega)]
    exact ih (k + 1) _ (fun i h1 h2 => h i (by omega) (by omega))
theorem dg_151 {rw rm : Nat → Int32} (bs : Nat) : ∀ (r k : Nat) (z : Int64), (∀ i, k ≤ i → i < k + r → rw i = rm i) → F_X7_digest_151 rm bs r k z = (fX6_mix (F_X6_mixAll_6 rw r k z) (nI bs).toInt64, fX6_mix (F_X6_mixAll_6 rw r k z) (nI bs).toInt64) := by
  intro r
  induction r with
  | zero => intro k z h; rw [F_X7_digest_151, F_X6_mixAll_6]; rfl
  | succ r ih =>
    intro k z h
    rw [F_X7_digest_151, F_X6_mixAll_6, ← h k (by omega) (by omega)]
    exact ih (k + 1) _ (fun i h1 h2 => h i (by omega) (by omega))
theorem dg_113 {per rea ra rw rm : Nat → Int32} {pm : Nat → Nat} {wn bs rn : Nat} (hw : ∀ i, i < wn → rw i = rm i) (hp : ∀ i, i < rn → per i = nI (pm i) ∧ rea i = ra i) : ∀ (r k : Nat) (z : Int64), k + r = rn →
    F_X7_digest_113 pm ra wn rm bs r k z = (F_X6_digest_99 per rea rw wn bs r k z, F_X6_digest_99 per rea rw wn bs r k z) := by
  intro r
  induction r with
  | zero =>
    intro k z h
    rw [F_X7_digest_113, F_X6_digest_99]
    exact dg_151 bs (wn - 0) 0 z (fun i _ h2 => hw i (by omega))
  | succ r ih =>
    intro k z h
    rw [F_X7_digest_113, F_X6_digest_99, (hp k (by omega)).1, (hp k (by omega)).2]
    exact ih (k + 1) _ (by omega)
theorem dg_77 {per rea ra rw rm fl we : Nat → Int32} {pm : Nat → Nat} {wn bs rn fn : Nat} (hw : ∀ i, i < wn → rw i = rm i) (hp : ∀ i, i < rn → per i = nI (pm i) ∧ rea i = ra i) (hf : ∀ i, i < fn → fl i = we i) : ∀ (r k : Nat) (z : Int64), k + r = fn →
    F_X7_digest_77 we rn pm ra wn rm bs r k z = (F_X6_digest_99 per rea rw wn bs (rn - 0) 0 (fX6_mix (F_X6_mixAll_6 fl r k z) (nI rn).toInt64), F_X6_digest_99 per rea rw wn bs (rn - 0) 0 (fX6_mix (F_X6_mixAll_6 fl r k z) (nI rn).toInt64)) := by
  intro r
  induction r with
  | zero =>
    intro k z h
    rw [F_X7_digest_77, F_X6_mixAll_6]
    exact dg_113 hw hp (rn - 0) 0 _ (by omega)
  | succ r ih =>
    intro k z h
    rw [F_X7_digest_77, F_X6_mixAll_6, ← hf k (by omega)]
    exact ih (k + 1) _ (by omega)
theorem dg_28 (tu : Nat → Int32) (c : Nat) (K : Int64 → Int64 × Int64) : ∀ (r k : Nat) (z : Int64), F_X7_digest_28 tu c K r k z = K (F_X6_mixAll_6 (fun i => tu (16 * c + i)) r k z) := by
  intro r
  induction r with
  | zero => intro k z; rw [F_X7_digest_28, F_X6_mixAll_6]
  | succ r ih => intro k z; rw [F_X7_digest_28, F_X6_mixAll_6, ih]; rfl
theorem e_digest {tr : Nat → Nat → Int32} {ln sn : Nat → Nat} {tu fl we per rea ra rw rm : Nat → Int32} {pm : Nat → Nat} {fn fm rn rq wn wm sr bs : Nat} (hs : RS tr ln sn tu) (hf : RF fl fn we fm) (hr : RR per rea rn pm ra rq) (hw : RW rw wn rm wm) (hb : sr = bs) :
    fX6_digest tr ln fl fn per rea rn rw wn sr = (fX7_digest sn tu fm we rq pm ra wm rm bs).1 := by
  obtain ⟨rfl, -, hf⟩ := hf
  obtain ⟨rfl, -, hr, -⟩ := hr
  obtain ⟨rfl, -, hw⟩ := hw
  subst hb
  have key : ∀ (r k : Nat) (z : Int64), k + r = 6 → F_X7_digest_9 sn tu fn we rn pm ra wn rm sr r k z = (F_X6_digest_6 tr ln fl fn per rea rn rw wn sr r k z, F_X6_digest_6 tr ln fl fn per rea rn rw wn sr r k z) := by
    intro r
    induction r with
    | zero =>
      intro k z h
      rw [F_X7_digest_9, F_X6_digest_6]
      exact dg_77 (fun i hi => (hw i hi).1) hr hf (fn - 0) 0 _ (by omega)
    | succ r ih =>
      intro k z h
      rw [F_X7_digest_9, F_X6_digest_6, dg_28, ih (k + 1) _ (by omega), ← (hs.1 k (by omega)).1]
      unfold fX6_mixAll
      rw [mixAll_al (f := tr k) (g := fun i => tu (16 * k + i)) (ln k - 0) 0 _ (fun i _ h2 => hs.2.1 k i (by omega) (by omega))]
      rfl
  unfold fX6_digest fX7_digest
  rw [key (6 - 0) 0 181 (by omega)]
theorem F_prod (n sc : Int32) : ∀ (r k : Nat) (a b : Int64), F_X7_falses_13 n sc r k a b = (F_X0_product_5 n 0 r k a, F_X0_product_5 n sc r k b) := by
  intro r
  induction r with
  | zero => intro k a b; rw [F_X7_falses_13, F_X0_product_5, F_X0_product_5]
  | succ r ih => intro k a b; rw [F_X7_falses_13, F_X0_product_5, F_X0_product_5, ih, Int32.add_zero]
theorem e_prod (n : Int32) (k : Nat) (sc : Int32) : fX7_falses n k sc = (fX0_product n k 0, fX0_product n k sc) := F_prod n sc (k - 0) 0 1 1
theorem ord_iff (n k : Int32) : fX0_mayOrder n k = 0 ↔ (fX7_in n 1 8 = 0 ∨ fX7_in k 1 n = 0) := by
  unfold fX0_mayOrder
  rw [w_in, w_in]
  by_cases c1 : fX7_in n 1 8 = 0
  · rw [if_pos c1]; exact ⟨fun _ => Or.inl c1, fun _ => rfl⟩
  · rw [if_neg c1]
    by_cases c2 : fX7_in k 1 n = 0
    · rw [if_pos c2]; exact ⟨fun _ => Or.inr c2, fun _ => rfl⟩
    · rw [if_neg c2]; exact ⟨fun q => absurd q (by decide), fun q => by rcases q with q | q; exact absurd q c1; exact absurd q c2⟩
theorem e_scale (ab be : Int64) (xn xk u : Int32) : fX6_scale xn xk u = (fX7_scale ab be xn xk u).1 := by
  have key : ∀ (r k : Nat) (a b : Int64), (F_X7_scale_35 xn u xk.toNatClampNeg r k a b).1 = F_X0_leastScale_10 xn xk.toNatClampNeg u r k := by
    intro r
    induction r with
    | zero => intro k a b; rw [F_X7_scale_35, F_X0_leastScale_10]
    | succ r ih =>
      intro k a b
      rw [F_X7_scale_35, F_X0_leastScale_10, e_prod]
      dsimp only
      split
      · exact ih _ _ _
      · rfl
  unfold fX6_scale fX7_scale
  rw [w_in]
  by_cases c1 : fX7_in xn 1 8 = 0
  · rw [if_pos c1, if_pos ((ord_iff xn xk).mpr (Or.inl c1))]
  by_cases c2 : fX7_in xk 1 xn = 0
  · rw [if_neg c1, if_pos c2, if_pos ((ord_iff xn xk).mpr (Or.inr c2))]
  rw [if_neg c1, if_neg c2, if_neg (fun q => by rcases (ord_iff xn xk).mp q with z | z; exact c1 z; exact c2 z)]
  by_cases c3 : fX7_in u 1 1000000000 = 0
  · rw [if_pos c3, if_pos c3]
  · rw [if_neg c3, if_neg c3, key]
    rfl
