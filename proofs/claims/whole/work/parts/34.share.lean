/-- the product of (n less i and m), i below k -/
def pr (n m : Nat) : Nat → Nat
  | 0 => 1
  | k + 1 => pr n m k * (n - k + m)
theorem pr_le {n m : Nat} (hn : n ≤ 8) (hm : m ≤ 40) : ∀ k, pr n m k ≤ 48 ^ k
  | 0 => Nat.le_refl 1
  | k + 1 => by
    rw [pr, Nat.pow_succ]
    exact Nat.mul_le_mul (pr_le hn hm k) (by omega)
theorem pr_62 {n m k : Nat} (hn : n ≤ 8) (hm : m ≤ 40) (hk : k ≤ 8) : pr n m k < 2 ^ 62 := by
  have h2 : 48 ^ k ≤ 48 ^ 8 := Nat.pow_le_pow_right (by omega) hk
  exact Nat.lt_of_le_of_lt (Nat.le_trans (pr_le hn hm k) h2) (by decide)
theorem pr_pos {n m : Nat} : ∀ k, k ≤ n → 0 < pr n m k
  | 0, _ => Nat.one_pos
  | k + 1, h => by
    rw [pr]
    exact Nat.mul_pos (pr_pos k (by omega)) (by omega)
theorem F_falses {n ss : Nat} (hn : n ≤ 8) (hs : ss ≤ 40) : ∀ r k, k + r ≤ n → F_X7_falses_13 (nI n) (nI ss) r k (lN (pr n 0 k)) (lN (pr n ss k)) = (lN (pr n 0 (k + r)), lN (pr n ss (k + r))) := by
  intro r
  induction r with
  | zero => intro k h; rw [F_X7_falses_13]; rfl
  | succ r ih =>
    intro k h
    rw [F_X7_falses_13, pk_sub (by omega), nI_add, nI_l (by omega), nI_l (by omega), lN_mul, lN_mul]
    have e1 : pr n 0 k * (n - k) = pr n 0 (k + 1) := by rw [pr, Nat.add_zero]
    have e2 : pr n ss k * (n - k + ss) = pr n ss (k + 1) := by rw [pr]
    rw [e1, e2, ih (k + 1) (by omega), show k + 1 + r = k + (r + 1) by omega]
theorem falses_eq {n k ss : Nat} (hn : n ≤ 8) (hk : k ≤ n) (hs : ss ≤ 40) : fX7_falses (nI n) k (nI ss) = (lN (pr n 0 k), lN (pr n ss k)) := by
  have h := F_falses hn hs k 0 (by omega)
  rw [Nat.zero_add] at h
  exact h
theorem falses_1 {n k ss : Nat} (hn : n ≤ 8) (hk : k ≤ n) (hs : ss ≤ 40) : (fX7_falses (nI n) k (nI ss)).1 = lN (pr n 0 k) := by rw [falses_eq hn hk hs]
theorem falses_2 {n k ss : Nat} (hn : n ≤ 8) (hk : k ≤ n) (hs : ss ≤ 40) : (fX7_falses (nI n) k (nI ss)).2 = lN (pr n ss k) := by rw [falses_eq hn hk hs]
theorem share_ne {n k ss : Nat} (hn : n ≤ 8) (hs : ss ≤ 40) (hk : k ≤ n) : ¬ fX7_shared (pr n 0 k) (pr n ss k) = 0 := by
  rw [sh_gcd (pr_62 hn (by omega) (by omega)) (pr_62 hn hs (by omega))]
  exact com_ne (pr_pos k hk) (pr_62 hn (by omega) (by omega)) (pr_62 hn hs (by omega))
def fX7_share (ab : Int64) (be : Int64) (xn : Int32) (xk : Int32) (xs : Int32) (xp : Int32) : Int64 × Int64 × Int64 := (if (fX7_in xn 1 8) = 0 then ((-102), ab, be) else (if (fX7_in xk 1 xn) = 0 then ((-102), ab, be) else (if (fX7_in xs 1 40) = 0 then ((-102), ab, be) else (if (fX7_in xp 0 1) = 0 then ((-102), ab, be) else (if xp = 0 then (((fX7_falses (nI (xn.toNatClampNeg)) (xk.toNatClampNeg) (nI (xs.toNatClampNeg))).1) / (fX7_shared (pr (xn.toNatClampNeg) 0 (xk.toNatClampNeg)) (pr (xn.toNatClampNeg) (xs.toNatClampNeg) (xk.toNatClampNeg))), (fX7_falses (nI (xn.toNatClampNeg)) (xk.toNatClampNeg) (nI (xs.toNatClampNeg))).1, (fX7_falses (nI (xn.toNatClampNeg)) (xk.toNatClampNeg) (nI (xs.toNatClampNeg))).2) else (((fX7_falses (nI (xn.toNatClampNeg)) (xk.toNatClampNeg) (nI (xs.toNatClampNeg))).2) / (fX7_shared (pr (xn.toNatClampNeg) 0 (xk.toNatClampNeg)) (pr (xn.toNatClampNeg) (xs.toNatClampNeg) (xk.toNatClampNeg))), (fX7_falses (nI (xn.toNatClampNeg)) (xk.toNatClampNeg) (nI (xs.toNatClampNeg))).1, (fX7_falses (nI (xn.toNatClampNeg)) (xk.toNatClampNeg) (nI (xs.toNatClampNeg))).2))))))
abbrev rmX7_share : Room := { frames := 1, cells := 0, slots := 0, locals := 29 }
set_option maxHeartbeats 4000000 in
set_option maxRecDepth 100000 in
theorem c_X7_share (l : Launch) (D : va_G) (cI : ClassId) (sz : Nat) (h : Nat) (a0 : Nat) (a1 : Nat) (a3 : Nat) (a5 : Nat) (a6 : Nat) (a8 : Nat) (a12 : Nat) (sn : Nat → Nat) (tu : Nat → Int32) (fn : Nat) (we : Nat → Int32) (rn : Nat) (per : Nat → Nat) (rea : Nat → Int32) (wn : Nat) (rw : Nat → Int32) (bs : Nat) (re : Int32) (ot : Int32) (cp : Nat → Int32) (ab : Int64) (be : Int64) (hh : Int64) (xn : Int32) (xk : Int32) (xs : Int32) (xp : Int32)  : Met l yX7_share wsX7_share rmX7_share (va_Pc [.ref h, .int xn, .int xk, .int xs, .int xp] (wrP D [(cI, .int)] [(h, .inr (5, [.ref a0, .ref a1, .int (nI fn), .ref a3, .int (nI rn), .ref a5, .ref a6, .int (nI wn), .ref a8, .int (nI bs), .int re, .int ot, .ref a12, .long ab, .long be, .long hh])), (a0, .inl (cI, 6, .inl (fun i => nI (sn i)))), (a1, .inl (cI, 96, .inl tu)), (a3, .inl (cI, 24, .inl we)), (a5, .inl (cI, 4, .inl (fun i => nI (per i)))), (a6, .inl (cI, 4, .inl rea)), (a8, .inl (cI, 64, .inl rw)), (a12, .inl (cI, 16, .inl cp))] sz)) (va_Ql (fun r9 (_ : Unit) => r9 = (fX7_share ab be xn xk xs xp).1) (fun _ u9 => va_P D vwCl [(h, .inr (5, [.ref a0, .ref a1, .int (nI fn), .ref a3, .int (nI rn), .ref a5, .ref a6, .int (nI wn), .ref a8, .int (nI bs), .int re, .int ot, .ref a12, .long ((fX7_share ab be xn xk xs xp).2.1), .long ((fX7_share ab be xn xk xs xp).2.2), .long hh])), (a0, .inl (cI, 6, .inl (fun i => nI (sn i)))), (a1, .inl (cI, 96, .inl tu)), (a3, .inl (cI, 24, .inl we)), (a5, .inl (cI, 4, .inl (fun i => nI (per i)))), (a6, .inl (cI, 4, .inl rea)), (a8, .inl (cI, 64, .inl rw)), (a12, .inl (cI, 16, .inl cp))] u9.heap) (va_A [(h, .inr (5, [.ref a0, .ref a1, .int (nI fn), .ref a3, .int (nI rn), .ref a5, .ref a6, .int (nI wn), .ref a8, .int (nI bs), .int re, .int ot, .ref a12, .long ab, .long be, .long hh])), (a0, .inl (cI, 6, .inl (fun i => nI (sn i)))), (a1, .inl (cI, 96, .inl tu)), (a3, .inl (cI, 24, .inl we)), (a5, .inl (cI, 4, .inl (fun i => nI (per i)))), (a6, .inl (cI, 4, .inl rea)), (a8, .inl (cI, 64, .inl rw)), (a12, .inl (cI, 16, .inl cp))] sz)) 0 0 (va_A [(h, .inr (5, [.ref a0, .ref a1, .int (nI fn), .ref a3, .int (nI rn), .ref a5, .ref a6, .int (nI wn), .ref a8, .int (nI bs), .int re, .int ot, .ref a12, .long ab, .long be, .long hh])), (a0, .inl (cI, 6, .inl (fun i => nI (sn i)))), (a1, .inl (cI, 96, .inl tu)), (a3, .inl (cI, 24, .inl we)), (a5, .inl (cI, 4, .inl (fun i => nI (per i)))), (a6, .inl (cI, 4, .inl rea)), (a8, .inl (cI, 64, .inl rw)), (a12, .inl (cI, 16, .inl cp))] sz) := by
  generalize hF : fX7_share ab be xn xk xs xp = T
  refine Met.ofW (cc := cX7_share) (maxL := 7) (ret := (some .long)) (by decide) rfl ?_
  intro p e s m args below meth c s₁ B hml hv
  obtain ⟨rfl, hsz, hP, hK, hD0⟩ := hv
  have hx := B.exec
  have hb := B.bytes
  have hr := B.returns
  have hts := atoms_spec (ws := wsX7_share) B.pre
  have hown : s.vm.findClass RX7 = some m.cls := findClass_of_methodNamed B.named
  have hlocks := B.notSynchronized
  have hinX7 : ∀ w ∈ u_ws RX7 TX7 16, w ∈ wsX7_share := by decide +kernel
  have hcst121 := hts (.constantLong RX7 121 (-102)) (by decide +kernel)
  have hf114 := hts (.fieldLink RX7 114 "PulseSignsModel" "above" "J") (by decide +kernel)
  have hf118 := hts (.fieldLink RX7 118 "PulseSignsModel" "below" "J") (by decide +kernel)
  subst hsz
  have hD := hD0.self (sz := s.heap.size)
  generalize hAe : va_A [(h, .inr (5, [.ref a0, .ref a1, .int (nI fn), .ref a3, .int (nI rn), .ref a5, .ref a6, .int (nI wn), .ref a8, .int (nI bs), .int re, .int ot, .ref a12, .long ab, .long be, .long hh])), (a0, .inl (cI, 6, .inl (fun i => nI (sn i)))), (a1, .inl (cI, 96, .inl tu)), (a3, .inl (cI, 24, .inl we)), (a5, .inl (cI, 4, .inl (fun i => nI (per i)))), (a6, .inl (cI, 4, .inl rea)), (a8, .inl (cI, 64, .inl rw)), (a12, .inl (cI, 16, .inl cp))] s.heap.size = A at hD ⊢
  have hA : ∀ q : Nat, s.heap.size ≤ q → A q := fun q h => by rw [← hAe]; exact Or.inr h
  have hS : va_S A s.heap s.heap [] := va_S.rf
  have hP : va_P D vwCl [(h, .inr (5, [.ref a0, .ref a1, .int (nI fn), .ref a3, .int (nI rn), .ref a5, .ref a6, .int (nI wn), .ref a8, .int (nI bs), .int re, .int ot, .ref a12, .long ab, .long be, .long hh])), (a0, .inl (cI, 6, .inl (fun i => nI (sn i)))), (a1, .inl (cI, 96, .inl tu)), (a3, .inl (cI, 24, .inl we)), (a5, .inl (cI, 4, .inl (fun i => nI (per i)))), (a6, .inl (cI, 4, .inl rea)), (a8, .inl (cI, 64, .inl rw)), (a12, .inl (cI, 16, .inl cp))] s.heap := hP
  have hl := lv_entry ([.ref h, .int xn, .int xk, .int xs, .int xp]) (n := 7) (Nat.le_of_ble_eq_true rfl)
  rw [lg_entry_eq]
  generalize (lg_sl ([.ref h, .int xn, .int xk, .int xs, .int xp]) ++ List.replicate (7 - (lg_sl ([.ref h, .int xn, .int xk, .int xs, .int xp])).length) Slot.unset).toArray = ls at hl ⊢
  refine w_Q (fun Q hQ => ?_)
  have hl : lv_has ls 7 [(0, .ref h), (1, .int xn), (2, .int xk), (3, .int xs), (4, .int xp)] := hl
  rw [fX7_share] at hF
  refine lv_iload_n hx hb dX7_share_0 rfl (lv_at hl 1 rfl) ?_
  refine lv_iconst (v := 1) hx hb dX7_share_1 (by decide) ?_
  refine lv_bipush (v := 8) hx hb dX7_share_2 (by decide) ?_
  have hPc := hP.sub (ws' := []) [] rfl
  refine cs_i (va_runS (As := [.int xn, .int 1, .int 8]) (rest := []) ⟨hx, hb, hml, hown, hts⟩ (c_X7_in l D cI xn 1 8 ) (va_cwS 3 hts gX7_share_X7_in rfl rfl rfl (by decide +kernel) ⟨(Nat.le_of_ble_eq_true rfl), (Nat.le_of_ble_eq_true rfl)⟩) (ro_pre hPc hK) rfl rfl hl.1 rfl (lv_room (Nat.le_of_ble_eq_true rfl)) dX7_share_4 ⟨Nat.zero_le _, Nat.zero_le _⟩) ?_
  refine lv_if_eq (tgt := 39) hx hb dX7_share_7 (by decide) (fun c7 => ?_) (fun c7 => ?_)
  · rw [if_pos c7] at hF
    refine lv_ldc2 (v := (-102)) hx hb hown hcst121 dX7_share_39 ?_
    subst hF
    subst hQ
    exact W.lret (v := (-102)) hx hb hr (fun u9 ht hW => ⟨⟨_, (), rfl, rfl, by rw [← ht] at hP; exact hP⟩, hS.F ht⟩) hS.2.2 dX7_share_42
  · rw [if_neg c7] at hF
    refine lv_iload_n hx hb dX7_share_10 rfl (lv_at hl 2 rfl) ?_
    refine lv_iconst (v := 1) hx hb dX7_share_11 (by decide) ?_
    refine lv_iload_n hx hb dX7_share_12 rfl (lv_at hl 1 rfl) ?_
    have hPc := hP.sub (ws' := []) [] rfl
    refine cs_i (va_runS (As := [.int xk, .int 1, .int xn]) (rest := []) ⟨hx, hb, hml, hown, hts⟩ (c_X7_in l D cI xk 1 xn ) (va_cwS 3 hts gX7_share_X7_in rfl rfl rfl (by decide +kernel) ⟨(Nat.le_of_ble_eq_true rfl), (Nat.le_of_ble_eq_true rfl)⟩) (ro_pre hPc hK) rfl rfl hl.1 rfl (lv_room (Nat.le_of_ble_eq_true rfl)) dX7_share_13 ⟨Nat.zero_le _, Nat.zero_le _⟩) ?_
    refine lv_if_eq (tgt := 39) hx hb dX7_share_16 (by decide) (fun c16 => ?_) (fun c16 => ?_)
    · rw [if_pos c16] at hF
      refine lv_ldc2 (v := (-102)) hx hb hown hcst121 dX7_share_39 ?_
      subst hF
      subst hQ
      exact W.lret (v := (-102)) hx hb hr (fun u9 ht hW => ⟨⟨_, (), rfl, rfl, by rw [← ht] at hP; exact hP⟩, hS.F ht⟩) hS.2.2 dX7_share_42
    · rw [if_neg c16] at hF
      refine lv_iload_n hx hb dX7_share_19 rfl (lv_at hl 3 rfl) ?_
      refine lv_iconst (v := 1) hx hb dX7_share_20 (by decide) ?_
      refine lv_bipush (v := 40) hx hb dX7_share_21 (by decide) ?_
      have hPc := hP.sub (ws' := []) [] rfl
      refine cs_i (va_runS (As := [.int xs, .int 1, .int 40]) (rest := []) ⟨hx, hb, hml, hown, hts⟩ (c_X7_in l D cI xs 1 40 ) (va_cwS 3 hts gX7_share_X7_in rfl rfl rfl (by decide +kernel) ⟨(Nat.le_of_ble_eq_true rfl), (Nat.le_of_ble_eq_true rfl)⟩) (ro_pre hPc hK) rfl rfl hl.1 rfl (lv_room (Nat.le_of_ble_eq_true rfl)) dX7_share_23 ⟨Nat.zero_le _, Nat.zero_le _⟩) ?_
      refine lv_if_eq (tgt := 39) hx hb dX7_share_26 (by decide) (fun c26 => ?_) (fun c26 => ?_)
      · rw [if_pos c26] at hF
        refine lv_ldc2 (v := (-102)) hx hb hown hcst121 dX7_share_39 ?_
        subst hF
        subst hQ
        exact W.lret (v := (-102)) hx hb hr (fun u9 ht hW => ⟨⟨_, (), rfl, rfl, by rw [← ht] at hP; exact hP⟩, hS.F ht⟩) hS.2.2 dX7_share_42
      · rw [if_neg c26] at hF
        refine lv_iload hx hb dX7_share_29 (lv_at hl 4 rfl) ?_
        refine lv_iconst (v := 0) hx hb dX7_share_31 (by decide) ?_
        refine lv_iconst (v := 1) hx hb dX7_share_32 (by decide) ?_
        have hPc := hP.sub (ws' := []) [] rfl
        refine cs_i (va_runS (As := [.int xp, .int 0, .int 1]) (rest := []) ⟨hx, hb, hml, hown, hts⟩ (c_X7_in l D cI xp 0 1 ) (va_cwS 3 hts gX7_share_X7_in rfl rfl rfl (by decide +kernel) ⟨(Nat.le_of_ble_eq_true rfl), (Nat.le_of_ble_eq_true rfl)⟩) (ro_pre hPc hK) rfl rfl hl.1 rfl (lv_room (Nat.le_of_ble_eq_true rfl)) dX7_share_33 ⟨Nat.zero_le _, Nat.zero_le _⟩) ?_
        refine lv_if_ne (tgt := 43) hx hb dX7_share_36 (by decide) (fun c36 => ?_) (fun c36 => ?_)
        · rw [if_neg c36] at hF
          obtain ⟨nn, hnn1, hnn, rfl⟩ := in_nat (a := 1) (b := 8) c7 (by omega)
          have e_nn : (nI nn).toNatClampNeg = nn := nI_clamp (by omega)
          try simp only [e_nn] at hF
          obtain ⟨kn, hkn1, hkn, rfl⟩ := in_nat (a := 1) (b := nn) c16 (by omega)
          have e_kn : (nI kn).toNatClampNeg = kn := nI_clamp (by omega)
          try simp only [e_kn] at hF
          obtain ⟨ss, hss1, hss, rfl⟩ := in_nat (a := 1) (b := 40) c26 (by omega)
          have e_ss : (nI ss).toNatClampNeg = ss := nI_clamp (by omega)
          try simp only [e_ss] at hF
          refine lv_aload_n hx hb dX7_share_43 rfl (lv_at hl 0 rfl) ?_
          refine lv_iload_n hx hb dX7_share_44 rfl (lv_at hl 1 rfl) ?_
          refine lv_iload_n hx hb dX7_share_45 rfl (lv_at hl 2 rfl) ?_
          refine lv_iload_n hx hb dX7_share_46 rfl (lv_at hl 3 rfl) ?_
          refine cx_v (va_runV (As := [.int (nI nn), .int (nI kn), .int (nI ss)]) (rest := []) ⟨hx, hb, hml, hown, hts⟩ (c_X7_falses l D cI s.heap.size h a0 a1 a3 a5 a6 a8 a12 sn tu fn we rn per rea wn rw bs re ot cp ab be hh (nI nn) kn (nI ss) (by first | assumption | omega)) (cwV 3 hts gX7_share_X7_falses rfl rfl rfl (by decide +kernel) ⟨(Nat.le_of_ble_eq_true rfl), (Nat.le_of_ble_eq_true rfl)⟩) (wr_preV hP hD hK rfl (q0 := 0) rfl) rfl rfl hl.1 rfl (lv_room (Nat.le_of_ble_eq_true rfl)) dX7_share_47 ⟨Nat.zero_le _, Nat.zero_le _⟩) hP hD hS hA [0, 1, 2, 3, 4, 5, 6, 7] rfl [h, a0, a1, a3, a5, a6, a8, a12] rfl rfl (fun H locs hP hD hS => ?_)
          have hP : va_P D vwCl [(h, .inr (5, [.ref a0, .ref a1, .int (nI fn), .ref a3, .int (nI rn), .ref a5, .ref a6, .int (nI wn), .ref a8, .int (nI bs), .int re, .int ot, .ref a12, .long ((fX7_falses (nI nn) kn (nI ss)).1), .long ((fX7_falses (nI nn) kn (nI ss)).2), .long hh])), (a0, .inl (cI, 6, .inl (fun i => nI (sn i)))), (a1, .inl (cI, 96, .inl tu)), (a3, .inl (cI, 24, .inl we)), (a5, .inl (cI, 4, .inl (fun i => nI (per i)))), (a6, .inl (cI, 4, .inl rea)), (a8, .inl (cI, 64, .inl rw)), (a12, .inl (cI, 16, .inl cp))] H := hP
          have hD : va_D A [(h, .inr (5, [.ref a0, .ref a1, .int (nI fn), .ref a3, .int (nI rn), .ref a5, .ref a6, .int (nI wn), .ref a8, .int (nI bs), .int re, .int ot, .ref a12, .long ((fX7_falses (nI nn) kn (nI ss)).1), .long ((fX7_falses (nI nn) kn (nI ss)).2), .long hh])), (a0, .inl (cI, 6, .inl (fun i => nI (sn i)))), (a1, .inl (cI, 96, .inl tu)), (a3, .inl (cI, 24, .inl we)), (a5, .inl (cI, 4, .inl (fun i => nI (per i)))), (a6, .inl (cI, 4, .inl rea)), (a8, .inl (cI, 64, .inl rw)), (a12, .inl (cI, 16, .inl cp))] := hD
          refine lv_aload_n hx hb dX7_share_50 rfl (lv_at hl 0 rfl) ?_
          refine va_get (D := D) (ci := 5) (v := .long ((fX7_falses (nI nn) kn (nI ss)).1)) (C := RX7) (T := TX7) (N := 16) hx hb hts hinX7 hown hK.1 hP 0 rfl rfl 13 (by decide) hf114 (fun _ h9 => h9) rfl dX7_share_51 ?_
          refine lv_aload_n hx hb dX7_share_54 rfl (lv_at hl 0 rfl) ?_
          refine va_get (D := D) (ci := 5) (v := .long ((fX7_falses (nI nn) kn (nI ss)).2)) (C := RX7) (T := TX7) (N := 16) hx hb hts hinX7 hown hK.1 hP 0 rfl rfl 14 (by decide) hf118 (fun _ h9 => h9) rfl dX7_share_55 ?_
          rw [falses_1 hnn (by omega) hss, falses_2 hnn (by omega) hss]
          have hPc := hP.sub (ws' := []) [] rfl
          refine cs_l (va_runS (As := [.long (lN (pr nn 0 kn)), .long (lN (pr nn ss kn))]) (rest := []) ⟨hx, hb, hml, hown, hts⟩ (c_X7_shared l D cI (pr nn 0 kn) (pr nn ss kn) (pr_62 hnn (by omega) (by omega)) (pr_62 hnn hss (by omega))) (va_cwS 2 hts gX7_share_X7_shared rfl rfl rfl (by decide +kernel) ⟨(Nat.le_of_ble_eq_true rfl), (Nat.le_of_ble_eq_true rfl)⟩) (ro_pre hPc hK) rfl rfl hl.1 rfl (lv_room (Nat.le_of_ble_eq_true rfl)) dX7_share_58 ⟨Nat.zero_le _, Nat.zero_le _⟩) ?_
          refine lv_lstore (lv' := [(5, .long (fX7_shared (pr nn 0 kn) (pr nn ss kn))), (0, .ref h), (1, .int (nI nn)), (2, .int (nI kn)), (3, .int (nI ss)), (4, .int xp)]) hx hb dX7_share_61 hl (by decide) rfl (fun ls hl => ?_)
          refine lv_iload hx hb dX7_share_63 (lv_at hl 5 rfl) ?_
          refine lv_if_ne (tgt := 78) hx hb dX7_share_65 (by decide) (fun c65 => ?_) (fun c65 => ?_)
          · rw [if_neg c65] at hF
            refine lv_aload_n hx hb dX7_share_78 rfl (lv_at hl 1 rfl) ?_
            refine va_get (D := D) (ci := 5) (v := .long ((fX7_falses (nI nn) kn (nI ss)).2)) (C := RX7) (T := TX7) (N := 16) hx hb hts hinX7 hown hK.1 hP 0 rfl rfl 14 (by decide) hf118 (fun _ h9 => h9) rfl dX7_share_79 ?_
            refine lv_lload hx hb dX7_share_82 (lv_at hl 0 rfl) ?_
            refine lv_ldiv hx hb dX7_share_84 (share_ne hnn hss hkn) ?_
            subst hF
            subst hQ
            exact W.lret (v := ((fX7_falses (nI nn) kn (nI ss)).2) / (fX7_shared (pr nn 0 kn) (pr nn ss kn))) hx hb hr (fun u9 ht hW => ⟨⟨_, (), rfl, rfl, by rw [← ht] at hP; exact hP⟩, hS.F ht⟩) hS.2.2 dX7_share_85
          · rw [if_pos c65] at hF
            refine lv_aload_n hx hb dX7_share_68 rfl (lv_at hl 1 rfl) ?_
            refine va_get (D := D) (ci := 5) (v := .long ((fX7_falses (nI nn) kn (nI ss)).1)) (C := RX7) (T := TX7) (N := 16) hx hb hts hinX7 hown hK.1 hP 0 rfl rfl 13 (by decide) hf114 (fun _ h9 => h9) rfl dX7_share_69 ?_
            refine lv_lload hx hb dX7_share_72 (lv_at hl 0 rfl) ?_
            refine lv_ldiv hx hb dX7_share_74 (share_ne hnn hss hkn) ?_
            refine lv_goto (tgt := 85) hx hb dX7_share_75 (by decide) ?_
            subst hF
            subst hQ
            exact W.lret (v := ((fX7_falses (nI nn) kn (nI ss)).1) / (fX7_shared (pr nn 0 kn) (pr nn ss kn))) hx hb hr (fun u9 ht hW => ⟨⟨_, (), rfl, rfl, by rw [← ht] at hP; exact hP⟩, hS.F ht⟩) hS.2.2 dX7_share_85
        · rw [if_pos c36] at hF
          refine lv_ldc2 (v := (-102)) hx hb hown hcst121 dX7_share_39 ?_
          subst hF
          subst hQ
          exact W.lret (v := (-102)) hx hb hr (fun u9 ht hW => ⟨⟨_, (), rfl, rfl, by rw [← ht] at hP; exact hP⟩, hS.F ht⟩) hS.2.2 dX7_share_42
