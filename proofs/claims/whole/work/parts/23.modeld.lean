theorem com_pos {x p : Nat} (h1 : 1 ≤ x) (h2 : 2 ≤ p) : 1 ≤ x / Nat.gcd x p * p := by
  have hg : 0 < Nat.gcd x p := Nat.gcd_pos_of_pos_left _ h1
  have hd : 0 < x / Nat.gcd x p := Nat.div_pos (Nat.le_of_dvd h1 (Nat.gcd_dvd_left x p)) hg
  exact Nat.mul_pos hd (by omega)
theorem com_le {x p k : Nat} (h1 : 1 ≤ x) (h : x ≤ 60 ^ k) (hp : p ≤ 60) : x / Nat.gcd x p * p ≤ 60 ^ (k + 1) := by
  have h2 : x / Nat.gcd x p ≤ x := Nat.div_le_self _ _
  rw [Nat.pow_succ]
  exact Nat.mul_le_mul (Nat.le_trans h2 h) hp
theorem com_62 {x k : Nat} (h : x ≤ 60 ^ k) (hk : k ≤ 4) : x < 2 ^ 62 := by
  have h2 : 60 ^ k ≤ 60 ^ 4 := Nat.pow_le_pow_right (by omega) hk
  exact Nat.lt_of_le_of_lt (Nat.le_trans h h2) (by decide)
theorem F_sh : ∀ (r k a b : Nat), a < 2 ^ 62 → b < 2 ^ 62 → b ≤ r → F_X7_shared_6 r k a b = lN (Nat.gcd b a) := by
  intro r
  induction r with
  | zero =>
    intro k a b ha hb h
    have hb0 : b = 0 := by omega
    subst hb0
    rw [F_X7_shared_6, Nat.gcd_zero_left]
  | succ r ih =>
    intro k a b ha hb h
    rw [F_X7_shared_6]
    split
    · next h0 =>
      have hb0 : b = 0 := by
        rcases Nat.eq_zero_or_pos b with e | e
        · exact e
        · exfalso
          have hne : ¬ lN b = lN 0 := by rw [pk_lEQ (by omega) (by omega)]; omega
          unfold lg_cmp at h0
          have e0 : (0 : Int64) = lN 0 := rfl
          rw [e0] at h0
          by_cases hg : lN b > lN 0
          · rw [if_pos hg] at h0; exact absurd h0 (by decide)
          · rw [if_neg hg, if_neg hne] at h0; exact absurd h0 (by decide)
      subst hb0
      rw [Nat.gcd_zero_left]
    · next h0 =>
      have hp := sh_pos h0
      have hm := Nat.mod_lt a hp
      rw [ih k b (a % b) hb (by omega) (by omega), ← Nat.gcd_rec]
theorem sh_gcd {a b : Nat} (ha : a < 2 ^ 62) (hb : b < 2 ^ 62) : fX7_shared a b = lN (Nat.gcd a b) := by
  rw [fX7_shared, F_sh b 0 a b ha hb (Nat.le_refl b), Nat.gcd_comm]
theorem com_ne {x p : Nat} (h1 : 1 ≤ x) (hx : x < 2 ^ 62) (hp : p < 2 ^ 62) : ¬ lN (Nat.gcd x p) = 0 := by
  have hg : 0 < Nat.gcd x p := Nat.gcd_pos_of_pos_left _ h1
  have hl : Nat.gcd x p ≤ x := Nat.gcd_le_left _ h1
  rw [show (0 : Int64) = lN 0 from rfl, pk_lEQ (by omega) (by omega)]
  omega
theorem com_dv {x p : Nat} (h1 : 1 ≤ x) (hx : x < 2 ^ 62) : lN x / lN (Nat.gcd x p) = lN (x / Nat.gcd x p) := by
  have hg : 0 < Nat.gcd x p := Nat.gcd_pos_of_pos_left _ h1
  have hl : Nat.gcd x p ≤ x := Nat.gcd_le_left _ h1
  exact pk_lDiv (by omega) hg (by omega)
theorem ne64 {n : Nat} (h : ¬ nI n = 64) (hn : n ≤ 64) : n < 64 := by
  rcases Nat.lt_or_ge n 64 with q | q
  · exact q
  · exfalso
    have : n = 64 := by omega
    subst this
    exact h rfl
def F_X7_common_4 (per : Nat → Nat) : Nat → Nat → Nat → Int32
  | 0, k4, x1 => (lN x1).toInt32
  | r4 + 1, k4, x1 => F_X7_common_4 per r4 (k4 + 1) (x1 / Nat.gcd x1 (per k4) * per k4)
def fX7_common (rn : Nat) (per : Nat → Nat) : Int32 := F_X7_common_4 per (rn - 0) 0 1
abbrev rmX7_common : Room := { frames := 1, cells := 0, slots := 0, locals := 29 }
set_option maxHeartbeats 4000000 in
set_option maxRecDepth 100000 in
theorem c_X7_common (l : Launch) (D : va_G) (cI : ClassId) (h : Nat) (a0 : Nat) (a1 : Nat) (a3 : Nat) (a5 : Nat) (a6 : Nat) (a8 : Nat) (a12 : Nat) (sn : Nat → Nat) (tu : Nat → Int32) (fn : Nat) (we : Nat → Int32) (rn : Nat) (per : Nat → Nat) (rea : Nat → Int32) (wn : Nat) (rw : Nat → Int32) (bs : Nat) (re : Int32) (ot : Int32) (cp : Nat → Int32) (ab : Int64) (be : Int64) (hh : Int64) (hrn : 1 ≤ rn ∧ rn ≤ 4) (hper : ∀ i, i < rn → 2 ≤ per i ∧ per i ≤ 60) : Met l yX7_common wsX7_common rmX7_common (va_Pc [.ref h] (roP D [(cI, .int)] [(h, .inr (5, [.ref a0, .ref a1, .int (nI fn), .ref a3, .int (nI rn), .ref a5, .ref a6, .int (nI wn), .ref a8, .int (nI bs), .int re, .int ot, .ref a12, .long ab, .long be, .long hh])), (a0, .inl (cI, 6, .inl (fun i => nI (sn i)))), (a1, .inl (cI, 96, .inl tu)), (a3, .inl (cI, 24, .inl we)), (a5, .inl (cI, 4, .inl (fun i => nI (per i)))), (a6, .inl (cI, 4, .inl rea)), (a8, .inl (cI, 64, .inl rw)), (a12, .inl (cI, 16, .inl cp))])) (vp_Si (fun r9 => r9 = fX7_common rn per)) 0 0 (fun _ => False) := by
  generalize hF : fX7_common rn per = T
  refine Met.ofW (cc := cX7_common) (maxL := 4) (ret := (some .int)) (by decide) rfl ?_
  intro p e s m args below meth c s₁ B hml hv
  obtain ⟨rfl, hP, hK⟩ := hv
  have hx := B.exec
  have hb := B.bytes
  have hr := B.returns
  have hts := atoms_spec (ws := wsX7_common) B.pre
  have hown : s.vm.findClass RX7 = some m.cls := findClass_of_methodNamed B.named
  have hlocks := B.notSynchronized
  have hinX7 : ∀ w ∈ u_ws RX7 TX7 16, w ∈ wsX7_common := by decide +kernel
  have hf23 := hts (.fieldLink RX7 23 "PulseSignsModel" "restMany" "I") (by decide +kernel)
  have hf26 := hts (.fieldLink RX7 26 "PulseSignsModel" "restOf" "[I") (by decide +kernel)
  have hl := lv_entry ([.ref h]) (n := 4) (Nat.le_of_ble_eq_true rfl)
  rw [lg_entry_eq]
  generalize (lg_sl ([.ref h]) ++ List.replicate (4 - (lg_sl ([.ref h])).length) Slot.unset).toArray = ls at hl ⊢
  refine w_Q (fun Q hQ => ?_)
  have hl : lv_has ls 4 [(0, .ref h)] := hl
  rw [fX7_common] at hF
  refine lv_lconst (v := 1) hx hb dX7_common_0 (by decide) ?_
  refine lv_lstore_n (lv' := [(1, .long 1), (0, .ref h)]) hx hb dX7_common_1 rfl hl (by decide) rfl (fun ls hl => ?_)
  refine lv_iconst (v := 0) hx hb dX7_common_2 (by decide) ?_
  refine lv_istore_n (lv' := [(3, .int 0), (1, .long 1), (0, .ref h)]) hx hb dX7_common_3 rfl hl (by decide) rfl (fun ls hl => ?_)
  have lp4 : ∀ (r4 k4 : Nat) (x1 : Nat) (ls : Array Slot), r4 = rn - k4 → k4 ≤ rn + 1 → 1 ≤ x1 → x1 ≤ 60 ^ k4 → lv_has ls 4 [(0, .ref h), (1, .long (lN x1)), (3, .int (nI k4))] → F_X7_common_4 per r4 k4 x1 = T → W p l e (headSpec wsX7_common rmX7_common).room s m ([.ref h] : List Value).toArray below meth c s.heap [] 0 0 Q (F0 m 4 ls []) := by
    intro r4
    induction r4 with
    | zero =>
      intro k4 x1 ls hi4_0 hi4_1 hi4_2 hi4_3 hl hF
      rw [F_X7_common_4] at hF
      refine lv_iload_n hx hb dX7_common_4 rfl (lv_at hl 2 rfl) ?_
      refine lv_aload_n hx hb dX7_common_5 rfl (lv_at hl 0 rfl) ?_
      refine va_get (D := D) (ci := 5) (v := .int (nI rn)) (C := RX7) (T := TX7) (N := 16) hx hb hts hinX7 hown hK.1 hP 0 rfl rfl 4 (by decide) hf23 (fun _ h9 => h9) rfl dX7_common_6 ?_
      refine lv_icmp_ge (tgt := 40) hx hb dX7_common_9 (by decide) (fun c9 => ?_) (fun c9 => ?_)
      · skip
        refine lv_lload_n hx hb dX7_common_40 rfl (lv_at hl 1 rfl) ?_
        refine lv_l2i hx hb dX7_common_41 rfl ?_
        subst hQ
        exact W.iret (v := (lN x1).toInt32) hx hb hr (fun u9 ht hW => ⟨_, rfl, hF, ht⟩) (fun q hq => by cases hq) dX7_common_42
      · exact False.elim (c9 (nI_le (a := rn) (b := k4) (by omega) (by omega)))
    | succ r4 ih4 =>
      intro k4 x1 ls hi4_0 hi4_1 hi4_2 hi4_3 hl hF
      have hp4 := hper k4 (by omega)
      have hx62 : x1 < 2 ^ 62 := com_62 hi4_3 (by omega)
      rw [F_X7_common_4] at hF
      refine lv_iload_n hx hb dX7_common_4 rfl (lv_at hl 2 rfl) ?_
      refine lv_aload_n hx hb dX7_common_5 rfl (lv_at hl 0 rfl) ?_
      refine va_get (D := D) (ci := 5) (v := .int (nI rn)) (C := RX7) (T := TX7) (N := 16) hx hb hts hinX7 hown hK.1 hP 0 rfl rfl 4 (by decide) hf23 (fun _ h9 => h9) rfl dX7_common_6 ?_
      refine lv_icmp_ge (tgt := 40) hx hb dX7_common_9 (by decide) (fun c9 => ?_) (fun c9 => ?_)
      · exact False.elim (nI_ge (a := k4) (b := rn) (by omega) (by omega) c9)
      · skip
        refine lv_lload_n hx hb dX7_common_12 rfl (lv_at hl 1 rfl) ?_
        refine lv_lload_n hx hb dX7_common_13 rfl (lv_at hl 1 rfl) ?_
        refine lv_aload_n hx hb dX7_common_14 rfl (lv_at hl 0 rfl) ?_
        refine va_get (D := D) (ci := 5) (v := .ref a5) (C := RX7) (T := TX7) (N := 16) hx hb hts hinX7 hown hK.1 hP 0 rfl rfl 5 (by decide) hf26 (fun _ h9 => h9) rfl dX7_common_15 ?_
        refine lv_iload_n hx hb dX7_common_18 rfl (lv_at hl 2 rfl) ?_
        refine w_ald hx hb hK hP 4 0 rfl rfl (k4) rfl (by omega) (by omega) dX7_common_19 ?_
        refine lv_i2l hx hb dX7_common_20 rfl ?_
        rw [nI_l (n := per k4) (by omega)]
        have hPc := hP.sub (ws' := []) [] rfl
        refine cs_l (va_runS (As := [.long (lN x1), .long (lN (per k4))]) (rest := [.long (lN x1)]) ⟨hx, hb, hml, hown, hts⟩ (c_X7_shared l D cI x1 (per k4) (by first | assumption | omega) (by first | assumption | omega)) (va_cwS 2 hts gX7_common_X7_shared rfl rfl rfl (by decide +kernel) ⟨(Nat.le_of_ble_eq_true rfl), (Nat.le_of_ble_eq_true rfl)⟩) (ro_pre hPc hK) rfl rfl hl.1 rfl (lv_room (Nat.le_of_ble_eq_true rfl)) dX7_common_21 ⟨Nat.zero_le _, Nat.zero_le _⟩) ?_
        rw [sh_gcd (a := x1) (b := per k4) (by omega) (by omega)]
        refine lv_ldiv hx hb dX7_common_24 (com_ne (by omega) (by omega) (by omega)) ?_
        rw [com_dv (x := x1) (p := per k4) (by omega) (by omega)]
        refine lv_aload_n hx hb dX7_common_25 rfl (lv_at hl 0 rfl) ?_
        refine va_get (D := D) (ci := 5) (v := .ref a5) (C := RX7) (T := TX7) (N := 16) hx hb hts hinX7 hown hK.1 hP 0 rfl rfl 5 (by decide) hf26 (fun _ h9 => h9) rfl dX7_common_26 ?_
        refine lv_iload_n hx hb dX7_common_29 rfl (lv_at hl 2 rfl) ?_
        refine w_ald hx hb hK hP 4 0 rfl rfl (k4) rfl (by omega) (by omega) dX7_common_30 ?_
        refine lv_i2l hx hb dX7_common_31 rfl ?_
        rw [nI_l (n := per k4) (by omega)]
        refine lv_lmul hx hb dX7_common_32 ?_
        rw [lN_mul]
        refine lv_lstore_n (lv' := [(1, .long (lN (x1 / Nat.gcd x1 (per k4) * per k4))), (0, .ref h), (3, .int (nI k4))]) hx hb dX7_common_33 rfl hl (by decide) rfl (fun ls hl => ?_)
        refine lv_iinc (v := nI (k4 + 1)) (lv' := [(3, .int (nI (k4 + 1))), (1, .long (lN (x1 / Nat.gcd x1 (per k4) * per k4))), (0, .ref h)]) hx hb dX7_common_34 hl (k := 2) rfl (nI_1 _) (by decide) rfl (fun ls hl => ?_)
        refine lv_goto (tgt := 4) hx hb dX7_common_37 (by decide) ?_
        exact ih4 (k4 + 1) (x1 / Nat.gcd x1 (per k4) * per k4) ls (by omega) (by omega) (com_pos hi4_2 (hper k4 (by omega)).1) (com_le hi4_2 hi4_3 (hper k4 (by omega)).2)  (lv_sub hl [2, 1, 0] rfl) hF
  exact lp4 (rn - 0) 0 1 ls rfl (by omega) (by omega) (by decide)  (lv_sub hl [2, 1, 0] rfl) hF
def F_X7_blind_47 (per : Nat → Nat) (xi : Int32) (rd : Nat) (x3 : Int32) (k35 : Nat) (K35 : (Int32) → Int32) : Nat → Nat → Int32 → Int32
  | 0, k47, x5 => (if x5 = 0 then K35 (x3 + 0) else K35 (x3 + 1))
  | r47 + 1, k47, x5 => (if x5 = 0 then F_X7_blind_47 per xi rd x3 k35 K35 r47 (k47 + 1) 0 else (if xi = (-1) then (if (((nI k35) * (nI (per k47))) - ((nI k35) * (nI (per k47))) / (nI rd) * (nI rd)) = 0 then F_X7_blind_47 per xi rd x3 k35 K35 r47 (k47 + 1) 1 else F_X7_blind_47 per xi rd x3 k35 K35 r47 (k47 + 1) 0) else (if (nI k47) = xi then (if (((nI k35) * (nI (per k47))) - ((nI k35) * (nI (per k47))) / (nI rd) * (nI rd)) = 0 then F_X7_blind_47 per xi rd x3 k35 K35 r47 (k47 + 1) 1 else F_X7_blind_47 per xi rd x3 k35 K35 r47 (k47 + 1) 0) else F_X7_blind_47 per xi rd x3 k35 K35 r47 (k47 + 1) 1)))
def F_X7_blind_35 (rn : Nat) (per : Nat → Nat) (xi : Int32) (rd : Nat) : Nat → Nat → Int32 → Int32
  | 0, k35, x3 => x3
  | r35 + 1, k35, x3 => F_X7_blind_47 per xi rd x3 k35 (fun z47_0 => F_X7_blind_35 rn per xi rd r35 (k35 + 1) z47_0) (rn - 0) 0 1
def fX7_blind (rn : Nat) (per : Nat → Nat) (xi : Int32) (xr : Int32) : Int32 := (if xi = (-1) then (if (fX7_in xr 1 3600) = 0 then (-102) else F_X7_blind_35 rn per xi (xr.toNatClampNeg) ((xr.toNatClampNeg) - 0) 0 0) else (if (fX7_isRest rn xi) = 0 then (-101) else (if (fX7_in xr 1 3600) = 0 then (-102) else F_X7_blind_35 rn per xi (xr.toNatClampNeg) ((xr.toNatClampNeg) - 0) 0 0)))
abbrev rmX7_blind : Room := { frames := 2, cells := 0, slots := 0, locals := 43 }
set_option maxHeartbeats 4000000 in
set_option maxRecDepth 100000 in
theorem c_X7_blind (l : Launch) (D : va_G) (cI : ClassId) (h : Nat) (a0 : Nat) (a1 : Nat) (a3 : Nat) (a5 : Nat) (a6 : Nat) (a8 : Nat) (a12 : Nat) (sn : Nat → Nat) (tu : Nat → Int32) (fn : Nat) (we : Nat → Int32) (rn : Nat) (per : Nat → Nat) (rea : Nat → Int32) (wn : Nat) (rw : Nat → Int32) (bs : Nat) (re : Int32) (ot : Int32) (cp : Nat → Int32) (ab : Int64) (be : Int64) (hh : Int64) (xi : Int32) (xr : Int32) (hrn : 1 ≤ rn ∧ rn ≤ 4) (hper : ∀ i, i < rn → 2 ≤ per i ∧ per i ≤ 60) : Met l yX7_blind wsX7_blind rmX7_blind (va_Pc [.ref h, .int xi, .int xr] (roP D [(cI, .int)] [(h, .inr (5, [.ref a0, .ref a1, .int (nI fn), .ref a3, .int (nI rn), .ref a5, .ref a6, .int (nI wn), .ref a8, .int (nI bs), .int re, .int ot, .ref a12, .long ab, .long be, .long hh])), (a0, .inl (cI, 6, .inl (fun i => nI (sn i)))), (a1, .inl (cI, 96, .inl tu)), (a3, .inl (cI, 24, .inl we)), (a5, .inl (cI, 4, .inl (fun i => nI (per i)))), (a6, .inl (cI, 4, .inl rea)), (a8, .inl (cI, 64, .inl rw)), (a12, .inl (cI, 16, .inl cp))])) (vp_Si (fun r9 => r9 = fX7_blind rn per xi xr)) 0 0 (fun _ => False) := by
  generalize hF : fX7_blind rn per xi xr = T
  refine Met.ofW (cc := cX7_blind) (maxL := 7) (ret := (some .int)) (by decide) rfl ?_
  intro p e s m args below meth c s₁ B hml hv
  obtain ⟨rfl, hP, hK⟩ := hv
  have hx := B.exec
  have hb := B.bytes
  have hr := B.returns
  have hts := atoms_spec (ws := wsX7_blind) B.pre
  have hown : s.vm.findClass RX7 = some m.cls := findClass_of_methodNamed B.named
  have hlocks := B.notSynchronized
  have hinX7 : ∀ w ∈ u_ws RX7 TX7 16, w ∈ wsX7_blind := by decide +kernel
  have hf23 := hts (.fieldLink RX7 23 "PulseSignsModel" "restMany" "I") (by decide +kernel)
  have hf26 := hts (.fieldLink RX7 26 "PulseSignsModel" "restOf" "[I") (by decide +kernel)
  have hl := lv_entry ([.ref h, .int xi, .int xr]) (n := 7) (Nat.le_of_ble_eq_true rfl)
  rw [lg_entry_eq]
  generalize (lg_sl ([.ref h, .int xi, .int xr]) ++ List.replicate (7 - (lg_sl ([.ref h, .int xi, .int xr])).length) Slot.unset).toArray = ls at hl ⊢
  refine w_Q (fun Q hQ => ?_)
  have hl : lv_has ls 7 [(0, .ref h), (1, .int xi), (2, .int xr)] := hl
  rw [fX7_blind] at hF
  refine lv_iload_n hx hb dX7_blind_0 rfl (lv_at hl 1 rfl) ?_
  refine lv_iconst (v := (-1)) hx hb dX7_blind_1 (by decide) ?_
  refine lv_icmp_eq (tgt := 16) hx hb dX7_blind_2 (by decide) (fun c2 => ?_) (fun c2 => ?_)
  · rw [if_pos c2] at hF
    refine lv_iload_n hx hb dX7_blind_16 rfl (lv_at hl 2 rfl) ?_
    refine lv_iconst (v := 1) hx hb dX7_blind_17 (by decide) ?_
    refine lv_sipush (v := 3600) hx hb dX7_blind_18 (by decide) ?_
    have hPc := hP.sub (ws' := []) [] rfl
    refine cs_i (va_runS (As := [.int xr, .int 1, .int 3600]) (rest := []) ⟨hx, hb, hml, hown, hts⟩ (c_X7_in l D cI xr 1 3600 ) (va_cwS 3 hts gX7_blind_X7_in rfl rfl rfl (by decide +kernel) ⟨(Nat.le_of_ble_eq_true rfl), (Nat.le_of_ble_eq_true rfl)⟩) (ro_pre hPc hK) rfl rfl hl.1 rfl (lv_room (Nat.le_of_ble_eq_true rfl)) dX7_blind_21 ⟨Nat.zero_le _, Nat.zero_le _⟩) ?_
    refine lv_if_ne (tgt := 30) hx hb dX7_blind_24 (by decide) (fun c24 => ?_) (fun c24 => ?_)
    · rw [if_neg c24] at hF
      obtain ⟨rd, hrd1, hrd, rfl⟩ := in_nat (a := 1) (b := 3600) c24 (by omega)
      have e_rd : (nI rd).toNatClampNeg = rd := nI_clamp (by omega)
      try simp only [e_rd] at hF
      refine lv_iconst (v := 0) hx hb dX7_blind_30 (by decide) ?_
      refine lv_istore_n (lv' := [(3, .int 0), (0, .ref h), (1, .int xi), (2, .int (nI rd))]) hx hb dX7_blind_31 rfl hl (by decide) rfl (fun ls hl => ?_)
      refine lv_iconst (v := 0) hx hb dX7_blind_32 (by decide) ?_
      refine lv_istore (lv' := [(4, .int 0), (3, .int 0), (0, .ref h), (1, .int xi), (2, .int (nI rd))]) hx hb dX7_blind_33 hl (by decide) rfl (fun ls hl => ?_)
      have lp35 : ∀ (r35 k35 : Nat) (x3 : Int32) (ls : Array Slot), r35 = rd - k35 → k35 ≤ rd + 1 → lv_has ls 7 [(0, .ref h), (1, .int xi), (2, .int (nI rd)), (3, .int x3), (4, .int (nI k35))] → F_X7_blind_35 rn per xi rd r35 k35 x3 = T → W p l e (headSpec wsX7_blind rmX7_blind).room s m ([.ref h, .int xi, .int (nI rd)] : List Value).toArray below meth c s.heap [] 0 0 Q (F0 m 35 ls []) := by
        intro r35
        induction r35 with
        | zero =>
          intro k35 x3 ls hi35_0 hi35_1 hl hF
          rw [F_X7_blind_35] at hF
          refine lv_iload hx hb dX7_blind_35 (lv_at hl 4 rfl) ?_
          refine lv_iload_n hx hb dX7_blind_37 rfl (lv_at hl 2 rfl) ?_
          refine lv_icmp_ge (tgt := 119) hx hb dX7_blind_38 (by decide) (fun c38 => ?_) (fun c38 => ?_)
          · skip
            refine lv_iload_n hx hb dX7_blind_119 rfl (lv_at hl 3 rfl) ?_
            subst hQ
            exact W.iret (v := x3) hx hb hr (fun u9 ht hW => ⟨_, rfl, hF, ht⟩) (fun q hq => by cases hq) dX7_blind_120
          · exact False.elim (c38 (nI_le (a := rd) (b := k35) (by omega) (by omega)))
        | succ r35 ih35 =>
          intro k35 x3 ls hi35_0 hi35_1 hl hF
          rw [F_X7_blind_35] at hF
          refine lv_iload hx hb dX7_blind_35 (lv_at hl 4 rfl) ?_
          refine lv_iload_n hx hb dX7_blind_37 rfl (lv_at hl 2 rfl) ?_
          refine lv_icmp_ge (tgt := 119) hx hb dX7_blind_38 (by decide) (fun c38 => ?_) (fun c38 => ?_)
          · exact False.elim (nI_ge (a := k35) (b := rd) (by omega) (by omega) c38)
          · skip
            refine lv_iconst (v := 1) hx hb dX7_blind_41 (by decide) ?_
            refine lv_istore (lv' := [(5, .int 1), (0, .ref h), (1, .int xi), (2, .int (nI rd)), (3, .int x3), (4, .int (nI k35))]) hx hb dX7_blind_42 hl (by decide) rfl (fun ls hl => ?_)
            refine lv_iconst (v := 0) hx hb dX7_blind_44 (by decide) ?_
            refine lv_istore (lv' := [(6, .int 0), (5, .int 1), (0, .ref h), (1, .int xi), (2, .int (nI rd)), (3, .int x3), (4, .int (nI k35))]) hx hb dX7_blind_45 hl (by decide) rfl (fun ls hl => ?_)
            have lp47 : ∀ (r47 k47 : Nat) (x5 : Int32) (ls : Array Slot), r47 = rn - k47 → k47 ≤ rn + 1 → lv_has ls 7 [(0, .ref h), (1, .int xi), (2, .int (nI rd)), (3, .int x3), (4, .int (nI k35)), (5, .int x5), (6, .int (nI k47))] → F_X7_blind_47 per xi rd x3 k35 (fun z47_0 => F_X7_blind_35 rn per xi rd r35 (k35 + 1) z47_0) r47 k47 x5 = T → W p l e (headSpec wsX7_blind rmX7_blind).room s m ([.ref h, .int xi, .int (nI rd)] : List Value).toArray below meth c s.heap [] 0 0 Q (F0 m 47 ls []) := by
              intro r47
              induction r47 with
              | zero =>
                intro k47 x5 ls hi47_0 hi47_1 hl hF
                rw [F_X7_blind_47] at hF
                refine lv_iload hx hb dX7_blind_47 (lv_at hl 6 rfl) ?_
                refine lv_aload_n hx hb dX7_blind_49 rfl (lv_at hl 0 rfl) ?_
                refine va_get (D := D) (ci := 5) (v := .int (nI rn)) (C := RX7) (T := TX7) (N := 16) hx hb hts hinX7 hown hK.1 hP 0 rfl rfl 4 (by decide) hf23 (fun _ h9 => h9) rfl dX7_blind_50 ?_
                refine lv_icmp_ge (tgt := 100) hx hb dX7_blind_53 (by decide) (fun c53 => ?_) (fun c53 => ?_)
                · skip
                  refine lv_iload_n hx hb dX7_blind_100 rfl (lv_at hl 3 rfl) ?_
                  refine lv_iload hx hb dX7_blind_101 (lv_at hl 5 rfl) ?_
                  refine lv_if_eq (tgt := 110) hx hb dX7_blind_103 (by decide) (fun c103 => ?_) (fun c103 => ?_)
                  · rw [if_pos c103] at hF
                    refine lv_iconst (v := 0) hx hb dX7_blind_110 (by decide) ?_
                    refine lv_iadd hx hb dX7_blind_111 ?_
                    refine lv_istore_n (lv' := [(3, .int (x3 + 0)), (0, .ref h), (1, .int xi), (2, .int (nI rd)), (4, .int (nI k35)), (5, .int x5), (6, .int (nI k47))]) hx hb dX7_blind_112 rfl hl (by decide) rfl (fun ls hl => ?_)
                    refine lv_iinc (v := nI (k35 + 1)) (lv' := [(4, .int (nI (k35 + 1))), (3, .int (x3 + 0)), (0, .ref h), (1, .int xi), (2, .int (nI rd)), (5, .int x5), (6, .int (nI k47))]) hx hb dX7_blind_113 hl (k := 4) rfl (nI_1 _) (by decide) rfl (fun ls hl => ?_)
                    refine lv_goto (tgt := 35) hx hb dX7_blind_116 (by decide) ?_
                    exact ih35 (k35 + 1) (x3 + 0) ls (by omega) (by omega)  (lv_sub hl [2, 3, 4, 1, 0] rfl) hF
                  · rw [if_neg c103] at hF
                    refine lv_iconst (v := 1) hx hb dX7_blind_106 (by decide) ?_
                    refine lv_goto (tgt := 111) hx hb dX7_blind_107 (by decide) ?_
                    refine lv_iadd hx hb dX7_blind_111 ?_
                    refine lv_istore_n (lv' := [(3, .int (x3 + 1)), (0, .ref h), (1, .int xi), (2, .int (nI rd)), (4, .int (nI k35)), (5, .int x5), (6, .int (nI k47))]) hx hb dX7_blind_112 rfl hl (by decide) rfl (fun ls hl => ?_)
                    refine lv_iinc (v := nI (k35 + 1)) (lv' := [(4, .int (nI (k35 + 1))), (3, .int (x3 + 1)), (0, .ref h), (1, .int xi), (2, .int (nI rd)), (5, .int x5), (6, .int (nI k47))]) hx hb dX7_blind_113 hl (k := 4) rfl (nI_1 _) (by decide) rfl (fun ls hl => ?_)
                    refine lv_goto (tgt := 35) hx hb dX7_blind_116 (by decide) ?_
                    exact ih35 (k35 + 1) (x3 + 1) ls (by omega) (by omega)  (lv_sub hl [2, 3, 4, 1, 0] rfl) hF
                · exact False.elim (c53 (nI_le (a := rn) (b := k47) (by omega) (by omega)))
              | succ r47 ih47 =>
                intro k47 x5 ls hi47_0 hi47_1 hl hF
                rw [F_X7_blind_47] at hF
                refine lv_iload hx hb dX7_blind_47 (lv_at hl 6 rfl) ?_
                refine lv_aload_n hx hb dX7_blind_49 rfl (lv_at hl 0 rfl) ?_
                refine va_get (D := D) (ci := 5) (v := .int (nI rn)) (C := RX7) (T := TX7) (N := 16) hx hb hts hinX7 hown hK.1 hP 0 rfl rfl 4 (by decide) hf23 (fun _ h9 => h9) rfl dX7_blind_50 ?_
                refine lv_icmp_ge (tgt := 100) hx hb dX7_blind_53 (by decide) (fun c53 => ?_) (fun c53 => ?_)
                · exact False.elim (nI_ge (a := k47) (b := rn) (by omega) (by omega) c53)
                · skip
                  refine lv_iload hx hb dX7_blind_56 (lv_at hl 5 rfl) ?_
                  refine lv_if_eq (tgt := 91) hx hb dX7_blind_58 (by decide) (fun c58 => ?_) (fun c58 => ?_)
                  · rw [if_pos c58] at hF
                    refine lv_iconst (v := 0) hx hb dX7_blind_91 (by decide) ?_
                    refine lv_istore (lv' := [(5, .int 0), (0, .ref h), (1, .int xi), (2, .int (nI rd)), (3, .int x3), (4, .int (nI k35)), (6, .int (nI k47))]) hx hb dX7_blind_92 hl (by decide) rfl (fun ls hl => ?_)
                    refine lv_iinc (v := nI (k47 + 1)) (lv' := [(6, .int (nI (k47 + 1))), (5, .int 0), (0, .ref h), (1, .int xi), (2, .int (nI rd)), (3, .int x3), (4, .int (nI k35))]) hx hb dX7_blind_94 hl (k := 6) rfl (nI_1 _) (by decide) rfl (fun ls hl => ?_)
                    refine lv_goto (tgt := 47) hx hb dX7_blind_97 (by decide) ?_
                    exact ih47 (k47 + 1) 0 ls (by omega) (by omega)  (lv_sub hl [2, 3, 4, 5, 6, 1, 0] rfl) hF
                  · rw [if_neg c58] at hF
                    refine lv_iload_n hx hb dX7_blind_61 rfl (lv_at hl 1 rfl) ?_
                    refine lv_iconst (v := (-1)) hx hb dX7_blind_62 (by decide) ?_
                    refine lv_icmp_eq (tgt := 72) hx hb dX7_blind_63 (by decide) (fun c63 => ?_) (fun c63 => ?_)
                    · rw [if_pos c63] at hF
                      refine lv_iload hx hb dX7_blind_72 (lv_at hl 4 rfl) ?_
                      refine lv_aload_n hx hb dX7_blind_74 rfl (lv_at hl 0 rfl) ?_
                      refine va_get (D := D) (ci := 5) (v := .ref a5) (C := RX7) (T := TX7) (N := 16) hx hb hts hinX7 hown hK.1 hP 0 rfl rfl 5 (by decide) hf26 (fun _ h9 => h9) rfl dX7_blind_75 ?_
                      refine lv_iload hx hb dX7_blind_78 (lv_at hl 6 rfl) ?_
                      refine w_ald hx hb hK hP 4 0 rfl rfl (k47) rfl (by omega) (by omega) dX7_blind_80 ?_
                      refine lv_imul hx hb dX7_blind_81 ?_
                      refine lv_iload_n hx hb dX7_blind_82 rfl (lv_at hl 2 rfl) ?_
                      refine lv_irem hx hb dX7_blind_83 (nI_ne0 (by omega) (by omega)) ?_
                      refine lv_if_ne (tgt := 91) hx hb dX7_blind_84 (by decide) (fun c84 => ?_) (fun c84 => ?_)
                      · rw [if_neg c84] at hF
                        refine lv_iconst (v := 0) hx hb dX7_blind_91 (by decide) ?_
                        refine lv_istore (lv' := [(5, .int 0), (0, .ref h), (1, .int xi), (2, .int (nI rd)), (3, .int x3), (4, .int (nI k35)), (6, .int (nI k47))]) hx hb dX7_blind_92 hl (by decide) rfl (fun ls hl => ?_)
                        refine lv_iinc (v := nI (k47 + 1)) (lv' := [(6, .int (nI (k47 + 1))), (5, .int 0), (0, .ref h), (1, .int xi), (2, .int (nI rd)), (3, .int x3), (4, .int (nI k35))]) hx hb dX7_blind_94 hl (k := 6) rfl (nI_1 _) (by decide) rfl (fun ls hl => ?_)
                        refine lv_goto (tgt := 47) hx hb dX7_blind_97 (by decide) ?_
                        exact ih47 (k47 + 1) 0 ls (by omega) (by omega)  (lv_sub hl [2, 3, 4, 5, 6, 1, 0] rfl) hF
                      · rw [if_pos c84] at hF
                        refine lv_iconst (v := 1) hx hb dX7_blind_87 (by decide) ?_
                        refine lv_goto (tgt := 92) hx hb dX7_blind_88 (by decide) ?_
                        refine lv_istore (lv' := [(5, .int 1), (0, .ref h), (1, .int xi), (2, .int (nI rd)), (3, .int x3), (4, .int (nI k35)), (6, .int (nI k47))]) hx hb dX7_blind_92 hl (by decide) rfl (fun ls hl => ?_)
                        refine lv_iinc (v := nI (k47 + 1)) (lv' := [(6, .int (nI (k47 + 1))), (5, .int 1), (0, .ref h), (1, .int xi), (2, .int (nI rd)), (3, .int x3), (4, .int (nI k35))]) hx hb dX7_blind_94 hl (k := 6) rfl (nI_1 _) (by decide) rfl (fun ls hl => ?_)
                        refine lv_goto (tgt := 47) hx hb dX7_blind_97 (by decide) ?_
                        exact ih47 (k47 + 1) 1 ls (by omega) (by omega)  (lv_sub hl [2, 3, 4, 5, 6, 1, 0] rfl) hF
                    · rw [if_neg c63] at hF
                      refine lv_iload hx hb dX7_blind_66 (lv_at hl 6 rfl) ?_
                      refine lv_iload_n hx hb dX7_blind_68 rfl (lv_at hl 1 rfl) ?_
                      refine lv_icmp_ne (tgt := 87) hx hb dX7_blind_69 (by decide) (fun c69 => ?_) (fun c69 => ?_)
                      · rw [if_neg c69] at hF
                        refine lv_iconst (v := 1) hx hb dX7_blind_87 (by decide) ?_
                        refine lv_goto (tgt := 92) hx hb dX7_blind_88 (by decide) ?_
                        refine lv_istore (lv' := [(5, .int 1), (0, .ref h), (1, .int xi), (2, .int (nI rd)), (3, .int x3), (4, .int (nI k35)), (6, .int (nI k47))]) hx hb dX7_blind_92 hl (by decide) rfl (fun ls hl => ?_)
                        refine lv_iinc (v := nI (k47 + 1)) (lv' := [(6, .int (nI (k47 + 1))), (5, .int 1), (0, .ref h), (1, .int xi), (2, .int (nI rd)), (3, .int x3), (4, .int (nI k35))]) hx hb dX7_blind_94 hl (k := 6) rfl (nI_1 _) (by decide) rfl (fun ls hl => ?_)
                        refine lv_goto (tgt := 47) hx hb dX7_blind_97 (by decide) ?_
                        exact ih47 (k47 + 1) 1 ls (by omega) (by omega)  (lv_sub hl [2, 3, 4, 5, 6, 1, 0] rfl) hF
                      · rw [if_pos c69] at hF
                        refine lv_iload hx hb dX7_blind_72 (lv_at hl 4 rfl) ?_
                        refine lv_aload_n hx hb dX7_blind_74 rfl (lv_at hl 0 rfl) ?_
                        refine va_get (D := D) (ci := 5) (v := .ref a5) (C := RX7) (T := TX7) (N := 16) hx hb hts hinX7 hown hK.1 hP 0 rfl rfl 5 (by decide) hf26 (fun _ h9 => h9) rfl dX7_blind_75 ?_
                        refine lv_iload hx hb dX7_blind_78 (lv_at hl 6 rfl) ?_
                        refine w_ald hx hb hK hP 4 0 rfl rfl (k47) rfl (by omega) (by omega) dX7_blind_80 ?_
                        refine lv_imul hx hb dX7_blind_81 ?_
                        refine lv_iload_n hx hb dX7_blind_82 rfl (lv_at hl 2 rfl) ?_
                        refine lv_irem hx hb dX7_blind_83 (nI_ne0 (by omega) (by omega)) ?_
                        refine lv_if_ne (tgt := 91) hx hb dX7_blind_84 (by decide) (fun c84 => ?_) (fun c84 => ?_)
                        · rw [if_neg c84] at hF
                          refine lv_iconst (v := 0) hx hb dX7_blind_91 (by decide) ?_
                          refine lv_istore (lv' := [(5, .int 0), (0, .ref h), (1, .int xi), (2, .int (nI rd)), (3, .int x3), (4, .int (nI k35)), (6, .int (nI k47))]) hx hb dX7_blind_92 hl (by decide) rfl (fun ls hl => ?_)
                          refine lv_iinc (v := nI (k47 + 1)) (lv' := [(6, .int (nI (k47 + 1))), (5, .int 0), (0, .ref h), (1, .int xi), (2, .int (nI rd)), (3, .int x3), (4, .int (nI k35))]) hx hb dX7_blind_94 hl (k := 6) rfl (nI_1 _) (by decide) rfl (fun ls hl => ?_)
                          refine lv_goto (tgt := 47) hx hb dX7_blind_97 (by decide) ?_
                          exact ih47 (k47 + 1) 0 ls (by omega) (by omega)  (lv_sub hl [2, 3, 4, 5, 6, 1, 0] rfl) hF
                        · rw [if_pos c84] at hF
                          refine lv_iconst (v := 1) hx hb dX7_blind_87 (by decide) ?_
                          refine lv_goto (tgt := 92) hx hb dX7_blind_88 (by decide) ?_
                          refine lv_istore (lv' := [(5, .int 1), (0, .ref h), (1, .int xi), (2, .int (nI rd)), (3, .int x3), (4, .int (nI k35)), (6, .int (nI k47))]) hx hb dX7_blind_92 hl (by decide) rfl (fun ls hl => ?_)
                          refine lv_iinc (v := nI (k47 + 1)) (lv' := [(6, .int (nI (k47 + 1))), (5, .int 1), (0, .ref h), (1, .int xi), (2, .int (nI rd)), (3, .int x3), (4, .int (nI k35))]) hx hb dX7_blind_94 hl (k := 6) rfl (nI_1 _) (by decide) rfl (fun ls hl => ?_)
                          refine lv_goto (tgt := 47) hx hb dX7_blind_97 (by decide) ?_
                          exact ih47 (k47 + 1) 1 ls (by omega) (by omega)  (lv_sub hl [2, 3, 4, 5, 6, 1, 0] rfl) hF
            exact lp47 (rn - 0) 0 1 ls rfl (by omega)  (lv_sub hl [2, 3, 4, 5, 6, 1, 0] rfl) hF
      exact lp35 (rd - 0) 0 0 ls rfl (by omega)  (lv_sub hl [2, 3, 4, 1, 0] rfl) hF
    · rw [if_pos c24] at hF
      refine lv_bipush (v := (-102)) hx hb dX7_blind_27 (by decide) ?_
      subst hQ
      exact W.iret (v := (-102)) hx hb hr (fun u9 ht hW => ⟨_, rfl, hF, ht⟩) (fun q hq => by cases hq) dX7_blind_29
  · rw [if_neg c2] at hF
    refine lv_aload_n hx hb dX7_blind_5 rfl (lv_at hl 0 rfl) ?_
    refine lv_iload_n hx hb dX7_blind_6 rfl (lv_at hl 1 rfl) ?_
    refine cs_i (va_runV (As := [.int xi]) (rest := []) ⟨hx, hb, hml, hown, hts⟩ (c_X7_isRest l D cI h a0 a1 a3 a5 a6 a8 a12 sn tu fn we rn per rea wn rw bs re ot cp ab be hh xi ) (cwV 1 hts gX7_blind_X7_isRest rfl rfl rfl (by decide +kernel) ⟨(Nat.le_of_ble_eq_true rfl), (Nat.le_of_ble_eq_true rfl)⟩) (ro_preV hP hK rfl (q0 := 0) rfl) rfl rfl hl.1 rfl (lv_room (Nat.le_of_ble_eq_true rfl)) dX7_blind_7 ⟨Nat.zero_le _, Nat.zero_le _⟩) ?_
    refine lv_if_ne (tgt := 16) hx hb dX7_blind_10 (by decide) (fun c10 => ?_) (fun c10 => ?_)
    · rw [if_neg c10] at hF
      refine lv_iload_n hx hb dX7_blind_16 rfl (lv_at hl 2 rfl) ?_
      refine lv_iconst (v := 1) hx hb dX7_blind_17 (by decide) ?_
      refine lv_sipush (v := 3600) hx hb dX7_blind_18 (by decide) ?_
      have hPc := hP.sub (ws' := []) [] rfl
      refine cs_i (va_runS (As := [.int xr, .int 1, .int 3600]) (rest := []) ⟨hx, hb, hml, hown, hts⟩ (c_X7_in l D cI xr 1 3600 ) (va_cwS 3 hts gX7_blind_X7_in rfl rfl rfl (by decide +kernel) ⟨(Nat.le_of_ble_eq_true rfl), (Nat.le_of_ble_eq_true rfl)⟩) (ro_pre hPc hK) rfl rfl hl.1 rfl (lv_room (Nat.le_of_ble_eq_true rfl)) dX7_blind_21 ⟨Nat.zero_le _, Nat.zero_le _⟩) ?_
      refine lv_if_ne (tgt := 30) hx hb dX7_blind_24 (by decide) (fun c24 => ?_) (fun c24 => ?_)
      · rw [if_neg c24] at hF
        obtain ⟨rd, hrd1, hrd, rfl⟩ := in_nat (a := 1) (b := 3600) c24 (by omega)
        have e_rd : (nI rd).toNatClampNeg = rd := nI_clamp (by omega)
        try simp only [e_rd] at hF
        refine lv_iconst (v := 0) hx hb dX7_blind_30 (by decide) ?_
        refine lv_istore_n (lv' := [(3, .int 0), (0, .ref h), (1, .int xi), (2, .int (nI rd))]) hx hb dX7_blind_31 rfl hl (by decide) rfl (fun ls hl => ?_)
        refine lv_iconst (v := 0) hx hb dX7_blind_32 (by decide) ?_
        refine lv_istore (lv' := [(4, .int 0), (3, .int 0), (0, .ref h), (1, .int xi), (2, .int (nI rd))]) hx hb dX7_blind_33 hl (by decide) rfl (fun ls hl => ?_)
        have lp35 : ∀ (r35 k35 : Nat) (x3 : Int32) (ls : Array Slot), r35 = rd - k35 → k35 ≤ rd + 1 → lv_has ls 7 [(0, .ref h), (1, .int xi), (2, .int (nI rd)), (3, .int x3), (4, .int (nI k35))] → F_X7_blind_35 rn per xi rd r35 k35 x3 = T → W p l e (headSpec wsX7_blind rmX7_blind).room s m ([.ref h, .int xi, .int (nI rd)] : List Value).toArray below meth c s.heap [] 0 0 Q (F0 m 35 ls []) := by
          intro r35
          induction r35 with
          | zero =>
            intro k35 x3 ls hi35_0 hi35_1 hl hF
            rw [F_X7_blind_35] at hF
            refine lv_iload hx hb dX7_blind_35 (lv_at hl 4 rfl) ?_
            refine lv_iload_n hx hb dX7_blind_37 rfl (lv_at hl 2 rfl) ?_
            refine lv_icmp_ge (tgt := 119) hx hb dX7_blind_38 (by decide) (fun c38 => ?_) (fun c38 => ?_)
            · skip
              refine lv_iload_n hx hb dX7_blind_119 rfl (lv_at hl 3 rfl) ?_
              subst hQ
              exact W.iret (v := x3) hx hb hr (fun u9 ht hW => ⟨_, rfl, hF, ht⟩) (fun q hq => by cases hq) dX7_blind_120
            · exact False.elim (c38 (nI_le (a := rd) (b := k35) (by omega) (by omega)))
          | succ r35 ih35 =>
            intro k35 x3 ls hi35_0 hi35_1 hl hF
            rw [F_X7_blind_35] at hF
            refine lv_iload hx hb dX7_blind_35 (lv_at hl 4 rfl) ?_
            refine lv_iload_n hx hb dX7_blind_37 rfl (lv_at hl 2 rfl) ?_
            refine lv_icmp_ge (tgt := 119) hx hb dX7_blind_38 (by decide) (fun c38 => ?_) (fun c38 => ?_)
            · exact False.elim (nI_ge (a := k35) (b := rd) (by omega) (by omega) c38)
            · skip
              refine lv_iconst (v := 1) hx hb dX7_blind_41 (by decide) ?_
              refine lv_istore (lv' := [(5, .int 1), (0, .ref h), (1, .int xi), (2, .int (nI rd)), (3, .int x3), (4, .int (nI k35))]) hx hb dX7_blind_42 hl (by decide) rfl (fun ls hl => ?_)
              refine lv_iconst (v := 0) hx hb dX7_blind_44 (by decide) ?_
              refine lv_istore (lv' := [(6, .int 0), (5, .int 1), (0, .ref h), (1, .int xi), (2, .int (nI rd)), (3, .int x3), (4, .int (nI k35))]) hx hb dX7_blind_45 hl (by decide) rfl (fun ls hl => ?_)
              have lp47 : ∀ (r47 k47 : Nat) (x5 : Int32) (ls : Array Slot), r47 = rn - k47 → k47 ≤ rn + 1 → lv_has ls 7 [(0, .ref h), (1, .int xi), (2, .int (nI rd)), (3, .int x3), (4, .int (nI k35)), (5, .int x5), (6, .int (nI k47))] → F_X7_blind_47 per xi rd x3 k35 (fun z47_0 => F_X7_blind_35 rn per xi rd r35 (k35 + 1) z47_0) r47 k47 x5 = T → W p l e (headSpec wsX7_blind rmX7_blind).room s m ([.ref h, .int xi, .int (nI rd)] : List Value).toArray below meth c s.heap [] 0 0 Q (F0 m 47 ls []) := by
                intro r47
                induction r47 with
                | zero =>
                  intro k47 x5 ls hi47_0 hi47_1 hl hF
                  rw [F_X7_blind_47] at hF
                  refine lv_iload hx hb dX7_blind_47 (lv_at hl 6 rfl) ?_
                  refine lv_aload_n hx hb dX7_blind_49 rfl (lv_at hl 0 rfl) ?_
                  refine va_get (D := D) (ci := 5) (v := .int (nI rn)) (C := RX7) (T := TX7) (N := 16) hx hb hts hinX7 hown hK.1 hP 0 rfl rfl 4 (by decide) hf23 (fun _ h9 => h9) rfl dX7_blind_50 ?_
                  refine lv_icmp_ge (tgt := 100) hx hb dX7_blind_53 (by decide) (fun c53 => ?_) (fun c53 => ?_)
                  · skip
                    refine lv_iload_n hx hb dX7_blind_100 rfl (lv_at hl 3 rfl) ?_
                    refine lv_iload hx hb dX7_blind_101 (lv_at hl 5 rfl) ?_
                    refine lv_if_eq (tgt := 110) hx hb dX7_blind_103 (by decide) (fun c103 => ?_) (fun c103 => ?_)
                    · rw [if_pos c103] at hF
                      refine lv_iconst (v := 0) hx hb dX7_blind_110 (by decide) ?_
                      refine lv_iadd hx hb dX7_blind_111 ?_
                      refine lv_istore_n (lv' := [(3, .int (x3 + 0)), (0, .ref h), (1, .int xi), (2, .int (nI rd)), (4, .int (nI k35)), (5, .int x5), (6, .int (nI k47))]) hx hb dX7_blind_112 rfl hl (by decide) rfl (fun ls hl => ?_)
                      refine lv_iinc (v := nI (k35 + 1)) (lv' := [(4, .int (nI (k35 + 1))), (3, .int (x3 + 0)), (0, .ref h), (1, .int xi), (2, .int (nI rd)), (5, .int x5), (6, .int (nI k47))]) hx hb dX7_blind_113 hl (k := 4) rfl (nI_1 _) (by decide) rfl (fun ls hl => ?_)
                      refine lv_goto (tgt := 35) hx hb dX7_blind_116 (by decide) ?_
                      exact ih35 (k35 + 1) (x3 + 0) ls (by omega) (by omega)  (lv_sub hl [2, 3, 4, 1, 0] rfl) hF
                    · rw [if_neg c103] at hF
                      refine lv_iconst (v := 1) hx hb dX7_blind_106 (by decide) ?_
                      refine lv_goto (tgt := 111) hx hb dX7_blind_107 (by decide) ?_
                      refine lv_iadd hx hb dX7_blind_111 ?_
                      refine lv_istore_n (lv' := [(3, .int (x3 + 1)), (0, .ref h), (1, .int xi), (2, .int (nI rd)), (4, .int (nI k35)), (5, .int x5), (6, .int (nI k47))]) hx hb dX7_blind_112 rfl hl (by decide) rfl (fun ls hl => ?_)
                      refine lv_iinc (v := nI (k35 + 1)) (lv' := [(4, .int (nI (k35 + 1))), (3, .int (x3 + 1)), (0, .ref h), (1, .int xi), (2, .int (nI rd)), (5, .int x5), (6, .int (nI k47))]) hx hb dX7_blind_113 hl (k := 4) rfl (nI_1 _) (by decide) rfl (fun ls hl => ?_)
                      refine lv_goto (tgt := 35) hx hb dX7_blind_116 (by decide) ?_
                      exact ih35 (k35 + 1) (x3 + 1) ls (by omega) (by omega)  (lv_sub hl [2, 3, 4, 1, 0] rfl) hF
                  · exact False.elim (c53 (nI_le (a := rn) (b := k47) (by omega) (by omega)))
                | succ r47 ih47 =>
                  intro k47 x5 ls hi47_0 hi47_1 hl hF
                  rw [F_X7_blind_47] at hF
                  refine lv_iload hx hb dX7_blind_47 (lv_at hl 6 rfl) ?_
                  refine lv_aload_n hx hb dX7_blind_49 rfl (lv_at hl 0 rfl) ?_
                  refine va_get (D := D) (ci := 5) (v := .int (nI rn)) (C := RX7) (T := TX7) (N := 16) hx hb hts hinX7 hown hK.1 hP 0 rfl rfl 4 (by decide) hf23 (fun _ h9 => h9) rfl dX7_blind_50 ?_
                  refine lv_icmp_ge (tgt := 100) hx hb dX7_blind_53 (by decide) (fun c53 => ?_) (fun c53 => ?_)
                  · exact False.elim (nI_ge (a := k47) (b := rn) (by omega) (by omega) c53)
                  · skip
                    refine lv_iload hx hb dX7_blind_56 (lv_at hl 5 rfl) ?_
                    refine lv_if_eq (tgt := 91) hx hb dX7_blind_58 (by decide) (fun c58 => ?_) (fun c58 => ?_)
                    · rw [if_pos c58] at hF
                      refine lv_iconst (v := 0) hx hb dX7_blind_91 (by decide) ?_
                      refine lv_istore (lv' := [(5, .int 0), (0, .ref h), (1, .int xi), (2, .int (nI rd)), (3, .int x3), (4, .int (nI k35)), (6, .int (nI k47))]) hx hb dX7_blind_92 hl (by decide) rfl (fun ls hl => ?_)
                      refine lv_iinc (v := nI (k47 + 1)) (lv' := [(6, .int (nI (k47 + 1))), (5, .int 0), (0, .ref h), (1, .int xi), (2, .int (nI rd)), (3, .int x3), (4, .int (nI k35))]) hx hb dX7_blind_94 hl (k := 6) rfl (nI_1 _) (by decide) rfl (fun ls hl => ?_)
                      refine lv_goto (tgt := 47) hx hb dX7_blind_97 (by decide) ?_
                      exact ih47 (k47 + 1) 0 ls (by omega) (by omega)  (lv_sub hl [2, 3, 4, 5, 6, 1, 0] rfl) hF
                    · rw [if_neg c58] at hF
                      refine lv_iload_n hx hb dX7_blind_61 rfl (lv_at hl 1 rfl) ?_
                      refine lv_iconst (v := (-1)) hx hb dX7_blind_62 (by decide) ?_
                      refine lv_icmp_eq (tgt := 72) hx hb dX7_blind_63 (by decide) (fun c63 => ?_) (fun c63 => ?_)
                      · rw [if_pos c63] at hF
                        refine lv_iload hx hb dX7_blind_72 (lv_at hl 4 rfl) ?_
                        refine lv_aload_n hx hb dX7_blind_74 rfl (lv_at hl 0 rfl) ?_
                        refine va_get (D := D) (ci := 5) (v := .ref a5) (C := RX7) (T := TX7) (N := 16) hx hb hts hinX7 hown hK.1 hP 0 rfl rfl 5 (by decide) hf26 (fun _ h9 => h9) rfl dX7_blind_75 ?_
                        refine lv_iload hx hb dX7_blind_78 (lv_at hl 6 rfl) ?_
                        refine w_ald hx hb hK hP 4 0 rfl rfl (k47) rfl (by omega) (by omega) dX7_blind_80 ?_
                        refine lv_imul hx hb dX7_blind_81 ?_
                        refine lv_iload_n hx hb dX7_blind_82 rfl (lv_at hl 2 rfl) ?_
                        refine lv_irem hx hb dX7_blind_83 (nI_ne0 (by omega) (by omega)) ?_
                        refine lv_if_ne (tgt := 91) hx hb dX7_blind_84 (by decide) (fun c84 => ?_) (fun c84 => ?_)
                        · rw [if_neg c84] at hF
                          refine lv_iconst (v := 0) hx hb dX7_blind_91 (by decide) ?_
                          refine lv_istore (lv' := [(5, .int 0), (0, .ref h), (1, .int xi), (2, .int (nI rd)), (3, .int x3), (4, .int (nI k35)), (6, .int (nI k47))]) hx hb dX7_blind_92 hl (by decide) rfl (fun ls hl => ?_)
                          refine lv_iinc (v := nI (k47 + 1)) (lv' := [(6, .int (nI (k47 + 1))), (5, .int 0), (0, .ref h), (1, .int xi), (2, .int (nI rd)), (3, .int x3), (4, .int (nI k35))]) hx hb dX7_blind_94 hl (k := 6) rfl (nI_1 _) (by decide) rfl (fun ls hl => ?_)
                          refine lv_goto (tgt := 47) hx hb dX7_blind_97 (by decide) ?_
                          exact ih47 (k47 + 1) 0 ls (by omega) (by omega)  (lv_sub hl [2, 3, 4, 5, 6, 1, 0] rfl) hF
                        · rw [if_pos c84] at hF
                          refine lv_iconst (v := 1) hx hb dX7_blind_87 (by decide) ?_
                          refine lv_goto (tgt := 92) hx hb dX7_blind_88 (by decide) ?_
                          refine lv_istore (lv' := [(5, .int 1), (0, .ref h), (1, .int xi), (2, .int (nI rd)), (3, .int x3), (4, .int (nI k35)), (6, .int (nI k47))]) hx hb dX7_blind_92 hl (by decide) rfl (fun ls hl => ?_)
                          refine lv_iinc (v := nI (k47 + 1)) (lv' := [(6, .int (nI (k47 + 1))), (5, .int 1), (0, .ref h), (1, .int xi), (2, .int (nI rd)), (3, .int x3), (4, .int (nI k35))]) hx hb dX7_blind_94 hl (k := 6) rfl (nI_1 _) (by decide) rfl (fun ls hl => ?_)
                          refine lv_goto (tgt := 47) hx hb dX7_blind_97 (by decide) ?_
                          exact ih47 (k47 + 1) 1 ls (by omega) (by omega)  (lv_sub hl [2, 3, 4, 5, 6, 1, 0] rfl) hF
                      · rw [if_neg c63] at hF
                        refine lv_iload hx hb dX7_blind_66 (lv_at hl 6 rfl) ?_
                        refine lv_iload_n hx hb dX7_blind_68 rfl (lv_at hl 1 rfl) ?_
                        refine lv_icmp_ne (tgt := 87) hx hb dX7_blind_69 (by decide) (fun c69 => ?_) (fun c69 => ?_)
                        · rw [if_neg c69] at hF
                          refine lv_iconst (v := 1) hx hb dX7_blind_87 (by decide) ?_
                          refine lv_goto (tgt := 92) hx hb dX7_blind_88 (by decide) ?_
                          refine lv_istore (lv' := [(5, .int 1), (0, .ref h), (1, .int xi), (2, .int (nI rd)), (3, .int x3), (4, .int (nI k35)), (6, .int (nI k47))]) hx hb dX7_blind_92 hl (by decide) rfl (fun ls hl => ?_)
                          refine lv_iinc (v := nI (k47 + 1)) (lv' := [(6, .int (nI (k47 + 1))), (5, .int 1), (0, .ref h), (1, .int xi), (2, .int (nI rd)), (3, .int x3), (4, .int (nI k35))]) hx hb dX7_blind_94 hl (k := 6) rfl (nI_1 _) (by decide) rfl (fun ls hl => ?_)
                          refine lv_goto (tgt := 47) hx hb dX7_blind_97 (by decide) ?_
                          exact ih47 (k47 + 1) 1 ls (by omega) (by omega)  (lv_sub hl [2, 3, 4, 5, 6, 1, 0] rfl) hF
                        · rw [if_pos c69] at hF
                          refine lv_iload hx hb dX7_blind_72 (lv_at hl 4 rfl) ?_
                          refine lv_aload_n hx hb dX7_blind_74 rfl (lv_at hl 0 rfl) ?_
                          refine va_get (D := D) (ci := 5) (v := .ref a5) (C := RX7) (T := TX7) (N := 16) hx hb hts hinX7 hown hK.1 hP 0 rfl rfl 5 (by decide) hf26 (fun _ h9 => h9) rfl dX7_blind_75 ?_
                          refine lv_iload hx hb dX7_blind_78 (lv_at hl 6 rfl) ?_
                          refine w_ald hx hb hK hP 4 0 rfl rfl (k47) rfl (by omega) (by omega) dX7_blind_80 ?_
                          refine lv_imul hx hb dX7_blind_81 ?_
                          refine lv_iload_n hx hb dX7_blind_82 rfl (lv_at hl 2 rfl) ?_
                          refine lv_irem hx hb dX7_blind_83 (nI_ne0 (by omega) (by omega)) ?_
                          refine lv_if_ne (tgt := 91) hx hb dX7_blind_84 (by decide) (fun c84 => ?_) (fun c84 => ?_)
                          · rw [if_neg c84] at hF
                            refine lv_iconst (v := 0) hx hb dX7_blind_91 (by decide) ?_
                            refine lv_istore (lv' := [(5, .int 0), (0, .ref h), (1, .int xi), (2, .int (nI rd)), (3, .int x3), (4, .int (nI k35)), (6, .int (nI k47))]) hx hb dX7_blind_92 hl (by decide) rfl (fun ls hl => ?_)
                            refine lv_iinc (v := nI (k47 + 1)) (lv' := [(6, .int (nI (k47 + 1))), (5, .int 0), (0, .ref h), (1, .int xi), (2, .int (nI rd)), (3, .int x3), (4, .int (nI k35))]) hx hb dX7_blind_94 hl (k := 6) rfl (nI_1 _) (by decide) rfl (fun ls hl => ?_)
                            refine lv_goto (tgt := 47) hx hb dX7_blind_97 (by decide) ?_
                            exact ih47 (k47 + 1) 0 ls (by omega) (by omega)  (lv_sub hl [2, 3, 4, 5, 6, 1, 0] rfl) hF
                          · rw [if_pos c84] at hF
                            refine lv_iconst (v := 1) hx hb dX7_blind_87 (by decide) ?_
                            refine lv_goto (tgt := 92) hx hb dX7_blind_88 (by decide) ?_
                            refine lv_istore (lv' := [(5, .int 1), (0, .ref h), (1, .int xi), (2, .int (nI rd)), (3, .int x3), (4, .int (nI k35)), (6, .int (nI k47))]) hx hb dX7_blind_92 hl (by decide) rfl (fun ls hl => ?_)
                            refine lv_iinc (v := nI (k47 + 1)) (lv' := [(6, .int (nI (k47 + 1))), (5, .int 1), (0, .ref h), (1, .int xi), (2, .int (nI rd)), (3, .int x3), (4, .int (nI k35))]) hx hb dX7_blind_94 hl (k := 6) rfl (nI_1 _) (by decide) rfl (fun ls hl => ?_)
                            refine lv_goto (tgt := 47) hx hb dX7_blind_97 (by decide) ?_
                            exact ih47 (k47 + 1) 1 ls (by omega) (by omega)  (lv_sub hl [2, 3, 4, 5, 6, 1, 0] rfl) hF
              exact lp47 (rn - 0) 0 1 ls rfl (by omega)  (lv_sub hl [2, 3, 4, 5, 6, 1, 0] rfl) hF
        exact lp35 (rd - 0) 0 0 ls rfl (by omega)  (lv_sub hl [2, 3, 4, 1, 0] rfl) hF
      · rw [if_pos c24] at hF
        refine lv_bipush (v := (-102)) hx hb dX7_blind_27 (by decide) ?_
        subst hQ
        exact W.iret (v := (-102)) hx hb hr (fun u9 ht hW => ⟨_, rfl, hF, ht⟩) (fun q hq => by cases hq) dX7_blind_29
    · rw [if_pos c10] at hF
      refine lv_bipush (v := (-101)) hx hb dX7_blind_13 (by decide) ?_
      subst hQ
      exact W.iret (v := (-101)) hx hb hr (fun u9 ht hW => ⟨_, rfl, hF, ht⟩) (fun q hq => by cases hq) dX7_blind_15
def fX7_put (wn : Nat) (rw : Nat → Int32) (xv : Int32) : Int32 × Nat × (Nat → Int32) := (if (fX7_in xv 0 10000) = 0 then ((-102), wn, rw) else (if (nI wn) = 64 then ((-104), wn, rw) else (nI (wn + 1), (wn + 1), upd rw wn xv)))
abbrev rmX7_put : Room := { frames := 1, cells := 0, slots := 0, locals := 22 }
set_option maxHeartbeats 4000000 in
set_option maxRecDepth 100000 in
theorem c_X7_put (l : Launch) (D : va_G) (cI : ClassId) (sz : Nat) (h : Nat) (a0 : Nat) (a1 : Nat) (a3 : Nat) (a5 : Nat) (a6 : Nat) (a8 : Nat) (a12 : Nat) (sn : Nat → Nat) (tu : Nat → Int32) (fn : Nat) (we : Nat → Int32) (rn : Nat) (per : Nat → Nat) (rea : Nat → Int32) (wn : Nat) (rw : Nat → Int32) (bs : Nat) (re : Int32) (ot : Int32) (cp : Nat → Int32) (ab : Int64) (be : Int64) (hh : Int64) (xv : Int32) (hwn : wn ≤ 64) : Met l yX7_put wsX7_put rmX7_put (va_Pc [.ref h, .int xv] (wrP D [(cI, .int)] [(h, .inr (5, [.ref a0, .ref a1, .int (nI fn), .ref a3, .int (nI rn), .ref a5, .ref a6, .int (nI wn), .ref a8, .int (nI bs), .int re, .int ot, .ref a12, .long ab, .long be, .long hh])), (a0, .inl (cI, 6, .inl (fun i => nI (sn i)))), (a1, .inl (cI, 96, .inl tu)), (a3, .inl (cI, 24, .inl we)), (a5, .inl (cI, 4, .inl (fun i => nI (per i)))), (a6, .inl (cI, 4, .inl rea)), (a8, .inl (cI, 64, .inl rw)), (a12, .inl (cI, 16, .inl cp))] sz)) (va_Qi (fun r9 (_ : Unit) => r9 = (fX7_put wn rw xv).1) (fun _ u9 => va_P D vwCl [(h, .inr (5, [.ref a0, .ref a1, .int (nI fn), .ref a3, .int (nI rn), .ref a5, .ref a6, .int (nI ((fX7_put wn rw xv).2.1)), .ref a8, .int (nI bs), .int re, .int ot, .ref a12, .long ab, .long be, .long hh])), (a0, .inl (cI, 6, .inl (fun i => nI (sn i)))), (a1, .inl (cI, 96, .inl tu)), (a3, .inl (cI, 24, .inl we)), (a5, .inl (cI, 4, .inl (fun i => nI (per i)))), (a6, .inl (cI, 4, .inl rea)), (a8, .inl (cI, 64, .inl ((fX7_put wn rw xv).2.2))), (a12, .inl (cI, 16, .inl cp))] u9.heap) (va_A [(h, .inr (5, [.ref a0, .ref a1, .int (nI fn), .ref a3, .int (nI rn), .ref a5, .ref a6, .int (nI wn), .ref a8, .int (nI bs), .int re, .int ot, .ref a12, .long ab, .long be, .long hh])), (a0, .inl (cI, 6, .inl (fun i => nI (sn i)))), (a1, .inl (cI, 96, .inl tu)), (a3, .inl (cI, 24, .inl we)), (a5, .inl (cI, 4, .inl (fun i => nI (per i)))), (a6, .inl (cI, 4, .inl rea)), (a8, .inl (cI, 64, .inl rw)), (a12, .inl (cI, 16, .inl cp))] sz)) 0 0 (va_A [(h, .inr (5, [.ref a0, .ref a1, .int (nI fn), .ref a3, .int (nI rn), .ref a5, .ref a6, .int (nI wn), .ref a8, .int (nI bs), .int re, .int ot, .ref a12, .long ab, .long be, .long hh])), (a0, .inl (cI, 6, .inl (fun i => nI (sn i)))), (a1, .inl (cI, 96, .inl tu)), (a3, .inl (cI, 24, .inl we)), (a5, .inl (cI, 4, .inl (fun i => nI (per i)))), (a6, .inl (cI, 4, .inl rea)), (a8, .inl (cI, 64, .inl rw)), (a12, .inl (cI, 16, .inl cp))] sz) := by
  generalize hF : fX7_put wn rw xv = T
  refine Met.ofW (cc := cX7_put) (maxL := 2) (ret := (some .int)) (by decide) rfl ?_
  intro p e s m args below meth c s₁ B hml hv
  obtain ⟨rfl, hsz, hP, hK, hD0⟩ := hv
  have hx := B.exec
  have hb := B.bytes
  have hr := B.returns
  have hts := atoms_spec (ws := wsX7_put) B.pre
  have hown : s.vm.findClass RX7 = some m.cls := findClass_of_methodNamed B.named
  have hlocks := B.notSynchronized
  have hinX7 : ∀ w ∈ u_ws RX7 TX7 16, w ∈ wsX7_put := by decide +kernel
  have hf97 := hts (.fieldLink RX7 97 "PulseSignsModel" "rowSize" "I") (by decide +kernel)
  have hf32 := hts (.fieldLink RX7 32 "PulseSignsModel" "row" "[I") (by decide +kernel)
  subst hsz
  have hD := hD0.self (sz := s.heap.size)
  generalize hAe : va_A [(h, .inr (5, [.ref a0, .ref a1, .int (nI fn), .ref a3, .int (nI rn), .ref a5, .ref a6, .int (nI wn), .ref a8, .int (nI bs), .int re, .int ot, .ref a12, .long ab, .long be, .long hh])), (a0, .inl (cI, 6, .inl (fun i => nI (sn i)))), (a1, .inl (cI, 96, .inl tu)), (a3, .inl (cI, 24, .inl we)), (a5, .inl (cI, 4, .inl (fun i => nI (per i)))), (a6, .inl (cI, 4, .inl rea)), (a8, .inl (cI, 64, .inl rw)), (a12, .inl (cI, 16, .inl cp))] s.heap.size = A at hD ⊢
  have hA : ∀ q : Nat, s.heap.size ≤ q → A q := fun q h => by rw [← hAe]; exact Or.inr h
  have hS : va_S A s.heap s.heap [] := va_S.rf
  have hP : va_P D vwCl [(h, .inr (5, [.ref a0, .ref a1, .int (nI fn), .ref a3, .int (nI rn), .ref a5, .ref a6, .int (nI wn), .ref a8, .int (nI bs), .int re, .int ot, .ref a12, .long ab, .long be, .long hh])), (a0, .inl (cI, 6, .inl (fun i => nI (sn i)))), (a1, .inl (cI, 96, .inl tu)), (a3, .inl (cI, 24, .inl we)), (a5, .inl (cI, 4, .inl (fun i => nI (per i)))), (a6, .inl (cI, 4, .inl rea)), (a8, .inl (cI, 64, .inl rw)), (a12, .inl (cI, 16, .inl cp))] s.heap := hP
  have hl := lv_entry ([.ref h, .int xv]) (n := 2) (Nat.le_of_ble_eq_true rfl)
  rw [lg_entry_eq]
  generalize (lg_sl ([.ref h, .int xv]) ++ List.replicate (2 - (lg_sl ([.ref h, .int xv])).length) Slot.unset).toArray = ls at hl ⊢
  refine w_Q (fun Q hQ => ?_)
  have hl : lv_has ls 2 [(0, .ref h), (1, .int xv)] := hl
  rw [fX7_put] at hF
  refine lv_iload_n hx hb dX7_put_0 rfl (lv_at hl 1 rfl) ?_
  refine lv_iconst (v := 0) hx hb dX7_put_1 (by decide) ?_
  refine lv_sipush (v := 10000) hx hb dX7_put_2 (by decide) ?_
  have hPc := hP.sub (ws' := []) [] rfl
  refine cs_i (va_runS (As := [.int xv, .int 0, .int 10000]) (rest := []) ⟨hx, hb, hml, hown, hts⟩ (c_X7_in l D cI xv 0 10000 ) (va_cwS 3 hts gX7_put_X7_in rfl rfl rfl (by decide +kernel) ⟨(Nat.le_of_ble_eq_true rfl), (Nat.le_of_ble_eq_true rfl)⟩) (ro_pre hPc hK) rfl rfl hl.1 rfl (lv_room (Nat.le_of_ble_eq_true rfl)) dX7_put_5 ⟨Nat.zero_le _, Nat.zero_le _⟩) ?_
  refine lv_if_ne (tgt := 14) hx hb dX7_put_8 (by decide) (fun c8 => ?_) (fun c8 => ?_)
  · rw [if_neg c8] at hF
    refine lv_aload_n hx hb dX7_put_14 rfl (lv_at hl 0 rfl) ?_
    refine va_get (D := D) (ci := 5) (v := .int (nI wn)) (C := RX7) (T := TX7) (N := 16) hx hb hts hinX7 hown hK.1 hP 0 rfl rfl 7 (by decide) hf97 (fun _ h9 => h9) rfl dX7_put_15 ?_
    refine lv_bipush (v := 64) hx hb dX7_put_18 (by decide) ?_
    refine lv_icmp_ne (tgt := 26) hx hb dX7_put_20 (by decide) (fun c20 => ?_) (fun c20 => ?_)
    · rw [if_neg c20] at hF
      have q20 : wn < 64 := ne64 c20 hwn
      refine lv_aload_n hx hb dX7_put_26 rfl (lv_at hl 0 rfl) ?_
      refine va_get (D := D) (ci := 5) (v := .ref a8) (C := RX7) (T := TX7) (N := 16) hx hb hts hinX7 hown hK.1 hP 0 rfl rfl 8 (by decide) hf32 (fun _ h9 => h9) rfl dX7_put_27 ?_
      refine lv_aload_n hx hb dX7_put_30 rfl (lv_at hl 0 rfl) ?_
      refine va_get (D := D) (ci := 5) (v := .int (nI wn)) (C := RX7) (T := TX7) (N := 16) hx hb hts hinX7 hown hK.1 hP 0 rfl rfl 7 (by decide) hf97 (fun _ h9 => h9) rfl dX7_put_31 ?_
      refine lv_iload_n hx hb dX7_put_34 rfl (lv_at hl 1 rfl) ?_
      refine w_ast hx hb hK hP hD hS 6 0 rfl rfl (wn) rfl (by omega) (by omega) dX7_put_35 (fun H locs hP hD hS => ?_)
      have hP : va_P D vwCl [(h, .inr (5, [.ref a0, .ref a1, .int (nI fn), .ref a3, .int (nI rn), .ref a5, .ref a6, .int (nI wn), .ref a8, .int (nI bs), .int re, .int ot, .ref a12, .long ab, .long be, .long hh])), (a0, .inl (cI, 6, .inl (fun i => nI (sn i)))), (a1, .inl (cI, 96, .inl tu)), (a3, .inl (cI, 24, .inl we)), (a5, .inl (cI, 4, .inl (fun i => nI (per i)))), (a6, .inl (cI, 4, .inl rea)), (a8, .inl (cI, 64, .inl (upd rw wn xv))), (a12, .inl (cI, 16, .inl cp))] H := hP
      have hD : va_D A [(h, .inr (5, [.ref a0, .ref a1, .int (nI fn), .ref a3, .int (nI rn), .ref a5, .ref a6, .int (nI wn), .ref a8, .int (nI bs), .int re, .int ot, .ref a12, .long ab, .long be, .long hh])), (a0, .inl (cI, 6, .inl (fun i => nI (sn i)))), (a1, .inl (cI, 96, .inl tu)), (a3, .inl (cI, 24, .inl we)), (a5, .inl (cI, 4, .inl (fun i => nI (per i)))), (a6, .inl (cI, 4, .inl rea)), (a8, .inl (cI, 64, .inl (upd rw wn xv))), (a12, .inl (cI, 16, .inl cp))] := hD
      refine lv_aload_n hx hb dX7_put_36 rfl (lv_at hl 0 rfl) ?_
      refine lv_dup hx hb dX7_put_37 rfl ?_
      refine va_get (D := D) (ci := 5) (v := .int (nI wn)) (C := RX7) (T := TX7) (N := 16) hx hb hts hinX7 hown hK.1 hP 0 rfl rfl 7 (by decide) hf97 (fun _ h9 => h9) rfl dX7_put_38 ?_
      refine lv_iconst (v := 1) hx hb dX7_put_41 (by decide) ?_
      refine lv_iadd hx hb dX7_put_42 ?_
      rw [nI_1]
      refine va_put (D := D) (ci := 5) (v := .int (nI (wn + 1))) (ty := .int) (C := RX7) (T := TX7) (N := 16) hx hb hts hinX7 tyX7 tyX7_ok nmX7 hown hK.1 hP hD hS 0 rfl rfl 7 (by decide) hf97 (fun _ h9 => h9) rfl (by decide +kernel) rfl rfl (Nat.le_of_ble_eq_true rfl) dX7_put_43 (fun H locs hP hD hS => ?_)
      have hP : va_P D vwCl [(h, .inr (5, [.ref a0, .ref a1, .int (nI fn), .ref a3, .int (nI rn), .ref a5, .ref a6, .int (nI (wn + 1)), .ref a8, .int (nI bs), .int re, .int ot, .ref a12, .long ab, .long be, .long hh])), (a0, .inl (cI, 6, .inl (fun i => nI (sn i)))), (a1, .inl (cI, 96, .inl tu)), (a3, .inl (cI, 24, .inl we)), (a5, .inl (cI, 4, .inl (fun i => nI (per i)))), (a6, .inl (cI, 4, .inl rea)), (a8, .inl (cI, 64, .inl (upd rw wn xv))), (a12, .inl (cI, 16, .inl cp))] H := hP
      have hD : va_D A [(h, .inr (5, [.ref a0, .ref a1, .int (nI fn), .ref a3, .int (nI rn), .ref a5, .ref a6, .int (nI (wn + 1)), .ref a8, .int (nI bs), .int re, .int ot, .ref a12, .long ab, .long be, .long hh])), (a0, .inl (cI, 6, .inl (fun i => nI (sn i)))), (a1, .inl (cI, 96, .inl tu)), (a3, .inl (cI, 24, .inl we)), (a5, .inl (cI, 4, .inl (fun i => nI (per i)))), (a6, .inl (cI, 4, .inl rea)), (a8, .inl (cI, 64, .inl (upd rw wn xv))), (a12, .inl (cI, 16, .inl cp))] := hD
      refine lv_aload_n hx hb dX7_put_46 rfl (lv_at hl 0 rfl) ?_
      refine va_get (D := D) (ci := 5) (v := .int (nI (wn + 1))) (C := RX7) (T := TX7) (N := 16) hx hb hts hinX7 hown hK.1 hP 0 rfl rfl 7 (by decide) hf97 (fun _ h9 => h9) rfl dX7_put_47 ?_
      subst hF
      subst hQ
      exact W.iret (v := nI (wn + 1)) hx hb hr (fun u9 ht hW => ⟨⟨_, (), rfl, rfl, by rw [← ht] at hP; exact hP⟩, hS.F ht⟩) hS.2.2 dX7_put_50
    · rw [if_pos c20] at hF
      refine lv_bipush (v := (-104)) hx hb dX7_put_23 (by decide) ?_
      subst hF
      subst hQ
      exact W.iret (v := (-104)) hx hb hr (fun u9 ht hW => ⟨⟨_, (), rfl, rfl, by rw [← ht] at hP; exact hP⟩, hS.F ht⟩) hS.2.2 dX7_put_25
  · rw [if_pos c8] at hF
    refine lv_bipush (v := (-102)) hx hb dX7_put_11 (by decide) ?_
    subst hF
    subst hQ
    exact W.iret (v := (-102)) hx hb hr (fun u9 ht hW => ⟨⟨_, (), rfl, rfl, by rw [← ht] at hP; exact hP⟩, hS.F ht⟩) hS.2.2 dX7_put_13
def fX7_empty (wn : Nat) : Int32 × Nat := (nI wn, 0)
abbrev rmX7_empty : Room := { frames := 0, cells := 0, slots := 0, locals := 0 }
set_option maxHeartbeats 4000000 in
set_option maxRecDepth 100000 in
theorem c_X7_empty (l : Launch) (D : va_G) (cI : ClassId) (sz : Nat) (h : Nat) (a0 : Nat) (a1 : Nat) (a3 : Nat) (a5 : Nat) (a6 : Nat) (a8 : Nat) (a12 : Nat) (sn : Nat → Nat) (tu : Nat → Int32) (fn : Nat) (we : Nat → Int32) (rn : Nat) (per : Nat → Nat) (rea : Nat → Int32) (wn : Nat) (rw : Nat → Int32) (bs : Nat) (re : Int32) (ot : Int32) (cp : Nat → Int32) (ab : Int64) (be : Int64) (hh : Int64)  : Met l yX7_empty wsX7_empty rmX7_empty (va_Pc [.ref h] (wrP D [(cI, .int)] [(h, .inr (5, [.ref a0, .ref a1, .int (nI fn), .ref a3, .int (nI rn), .ref a5, .ref a6, .int (nI wn), .ref a8, .int (nI bs), .int re, .int ot, .ref a12, .long ab, .long be, .long hh])), (a0, .inl (cI, 6, .inl (fun i => nI (sn i)))), (a1, .inl (cI, 96, .inl tu)), (a3, .inl (cI, 24, .inl we)), (a5, .inl (cI, 4, .inl (fun i => nI (per i)))), (a6, .inl (cI, 4, .inl rea)), (a8, .inl (cI, 64, .inl rw)), (a12, .inl (cI, 16, .inl cp))] sz)) (va_Qi (fun r9 (_ : Unit) => r9 = (fX7_empty wn).1) (fun _ u9 => va_P D vwCl [(h, .inr (5, [.ref a0, .ref a1, .int (nI fn), .ref a3, .int (nI rn), .ref a5, .ref a6, .int (nI ((fX7_empty wn).2)), .ref a8, .int (nI bs), .int re, .int ot, .ref a12, .long ab, .long be, .long hh])), (a0, .inl (cI, 6, .inl (fun i => nI (sn i)))), (a1, .inl (cI, 96, .inl tu)), (a3, .inl (cI, 24, .inl we)), (a5, .inl (cI, 4, .inl (fun i => nI (per i)))), (a6, .inl (cI, 4, .inl rea)), (a8, .inl (cI, 64, .inl rw)), (a12, .inl (cI, 16, .inl cp))] u9.heap) (va_A [(h, .inr (5, [.ref a0, .ref a1, .int (nI fn), .ref a3, .int (nI rn), .ref a5, .ref a6, .int (nI wn), .ref a8, .int (nI bs), .int re, .int ot, .ref a12, .long ab, .long be, .long hh])), (a0, .inl (cI, 6, .inl (fun i => nI (sn i)))), (a1, .inl (cI, 96, .inl tu)), (a3, .inl (cI, 24, .inl we)), (a5, .inl (cI, 4, .inl (fun i => nI (per i)))), (a6, .inl (cI, 4, .inl rea)), (a8, .inl (cI, 64, .inl rw)), (a12, .inl (cI, 16, .inl cp))] sz)) 0 0 (va_A [(h, .inr (5, [.ref a0, .ref a1, .int (nI fn), .ref a3, .int (nI rn), .ref a5, .ref a6, .int (nI wn), .ref a8, .int (nI bs), .int re, .int ot, .ref a12, .long ab, .long be, .long hh])), (a0, .inl (cI, 6, .inl (fun i => nI (sn i)))), (a1, .inl (cI, 96, .inl tu)), (a3, .inl (cI, 24, .inl we)), (a5, .inl (cI, 4, .inl (fun i => nI (per i)))), (a6, .inl (cI, 4, .inl rea)), (a8, .inl (cI, 64, .inl rw)), (a12, .inl (cI, 16, .inl cp))] sz) := by
  generalize hF : fX7_empty wn = T
  refine Met.ofW (cc := cX7_empty) (maxL := 2) (ret := (some .int)) (by decide) rfl ?_
  intro p e s m args below meth c s₁ B hml hv
  obtain ⟨rfl, hsz, hP, hK, hD0⟩ := hv
  have hx := B.exec
  have hb := B.bytes
  have hr := B.returns
  have hts := atoms_spec (ws := wsX7_empty) B.pre
  have hown : s.vm.findClass RX7 = some m.cls := findClass_of_methodNamed B.named
  have hlocks := B.notSynchronized
  have hinX7 : ∀ w ∈ u_ws RX7 TX7 16, w ∈ wsX7_empty := by decide +kernel
  have hf97 := hts (.fieldLink RX7 97 "PulseSignsModel" "rowSize" "I") (by decide +kernel)
  subst hsz
  have hD := hD0.self (sz := s.heap.size)
  generalize hAe : va_A [(h, .inr (5, [.ref a0, .ref a1, .int (nI fn), .ref a3, .int (nI rn), .ref a5, .ref a6, .int (nI wn), .ref a8, .int (nI bs), .int re, .int ot, .ref a12, .long ab, .long be, .long hh])), (a0, .inl (cI, 6, .inl (fun i => nI (sn i)))), (a1, .inl (cI, 96, .inl tu)), (a3, .inl (cI, 24, .inl we)), (a5, .inl (cI, 4, .inl (fun i => nI (per i)))), (a6, .inl (cI, 4, .inl rea)), (a8, .inl (cI, 64, .inl rw)), (a12, .inl (cI, 16, .inl cp))] s.heap.size = A at hD ⊢
  have hA : ∀ q : Nat, s.heap.size ≤ q → A q := fun q h => by rw [← hAe]; exact Or.inr h
  have hS : va_S A s.heap s.heap [] := va_S.rf
  have hP : va_P D vwCl [(h, .inr (5, [.ref a0, .ref a1, .int (nI fn), .ref a3, .int (nI rn), .ref a5, .ref a6, .int (nI wn), .ref a8, .int (nI bs), .int re, .int ot, .ref a12, .long ab, .long be, .long hh])), (a0, .inl (cI, 6, .inl (fun i => nI (sn i)))), (a1, .inl (cI, 96, .inl tu)), (a3, .inl (cI, 24, .inl we)), (a5, .inl (cI, 4, .inl (fun i => nI (per i)))), (a6, .inl (cI, 4, .inl rea)), (a8, .inl (cI, 64, .inl rw)), (a12, .inl (cI, 16, .inl cp))] s.heap := hP
  have hl := lv_entry ([.ref h]) (n := 2) (Nat.le_of_ble_eq_true rfl)
  rw [lg_entry_eq]
  generalize (lg_sl ([.ref h]) ++ List.replicate (2 - (lg_sl ([.ref h])).length) Slot.unset).toArray = ls at hl ⊢
  refine w_Q (fun Q hQ => ?_)
  have hl : lv_has ls 2 [(0, .ref h)] := hl
  rw [fX7_empty] at hF
  refine lv_aload_n hx hb dX7_empty_0 rfl (lv_at hl 0 rfl) ?_
  refine va_get (D := D) (ci := 5) (v := .int (nI wn)) (C := RX7) (T := TX7) (N := 16) hx hb hts hinX7 hown hK.1 hP 0 rfl rfl 7 (by decide) hf97 (fun _ h9 => h9) rfl dX7_empty_1 ?_
  refine lv_istore_n (lv' := [(1, .int (nI wn)), (0, .ref h)]) hx hb dX7_empty_4 rfl hl (by decide) rfl (fun ls hl => ?_)
  refine lv_aload_n hx hb dX7_empty_5 rfl (lv_at hl 1 rfl) ?_
  refine lv_iconst (v := 0) hx hb dX7_empty_6 (by decide) ?_
  refine va_put (D := D) (ci := 5) (v := .int 0) (ty := .int) (C := RX7) (T := TX7) (N := 16) hx hb hts hinX7 tyX7 tyX7_ok nmX7 hown hK.1 hP hD hS 0 rfl rfl 7 (by decide) hf97 (fun _ h9 => h9) rfl (by decide +kernel) rfl rfl (Nat.le_of_ble_eq_true rfl) dX7_empty_7 (fun H locs hP hD hS => ?_)
  have hP : va_P D vwCl [(h, .inr (5, [.ref a0, .ref a1, .int (nI fn), .ref a3, .int (nI rn), .ref a5, .ref a6, .int 0, .ref a8, .int (nI bs), .int re, .int ot, .ref a12, .long ab, .long be, .long hh])), (a0, .inl (cI, 6, .inl (fun i => nI (sn i)))), (a1, .inl (cI, 96, .inl tu)), (a3, .inl (cI, 24, .inl we)), (a5, .inl (cI, 4, .inl (fun i => nI (per i)))), (a6, .inl (cI, 4, .inl rea)), (a8, .inl (cI, 64, .inl rw)), (a12, .inl (cI, 16, .inl cp))] H := hP
  have hD : va_D A [(h, .inr (5, [.ref a0, .ref a1, .int (nI fn), .ref a3, .int (nI rn), .ref a5, .ref a6, .int 0, .ref a8, .int (nI bs), .int re, .int ot, .ref a12, .long ab, .long be, .long hh])), (a0, .inl (cI, 6, .inl (fun i => nI (sn i)))), (a1, .inl (cI, 96, .inl tu)), (a3, .inl (cI, 24, .inl we)), (a5, .inl (cI, 4, .inl (fun i => nI (per i)))), (a6, .inl (cI, 4, .inl rea)), (a8, .inl (cI, 64, .inl rw)), (a12, .inl (cI, 16, .inl cp))] := hD
  refine lv_iload_n hx hb dX7_empty_10 rfl (lv_at hl 0 rfl) ?_
  subst hF
  subst hQ
  exact W.iret (v := nI wn) hx hb hr (fun u9 ht hW => ⟨⟨_, (), rfl, rfl, by rw [← ht] at hP; exact hP⟩, hS.F ht⟩) hS.2.2 dX7_empty_11
def fX7_isNear (x : Int32) (y : Int32) (w : Int32) (g : Int32) : Int32 := (if y ≤ x then fX7_in (x - y) (g + 1) (g + w) else fX7_in (y - x) (g + 1) (g + w))
abbrev rmX7_isNear : Room := { frames := 1, cells := 0, slots := 0, locals := 22 }
set_option maxHeartbeats 4000000 in
set_option maxRecDepth 100000 in
theorem c_X7_isNear (l : Launch) (D : va_G) (cI : ClassId) (h : Nat) (a0 : Nat) (a1 : Nat) (a3 : Nat) (a5 : Nat) (a6 : Nat) (a8 : Nat) (a12 : Nat) (sn : Nat → Nat) (tu : Nat → Int32) (fn : Nat) (we : Nat → Int32) (rn : Nat) (per : Nat → Nat) (rea : Nat → Int32) (wn : Nat) (rw : Nat → Int32) (bs : Nat) (re : Int32) (ot : Int32) (cp : Nat → Int32) (ab : Int64) (be : Int64) (hh : Int64) (x : Int32) (y : Int32) (w : Int32) (g : Int32)  : Met l yX7_isNear wsX7_isNear rmX7_isNear (va_Pc [.ref h, .int x, .int y, .int w, .int g] (roP D [(cI, .int)] [(h, .inr (5, [.ref a0, .ref a1, .int (nI fn), .ref a3, .int (nI rn), .ref a5, .ref a6, .int (nI wn), .ref a8, .int (nI bs), .int re, .int ot, .ref a12, .long ab, .long be, .long hh])), (a0, .inl (cI, 6, .inl (fun i => nI (sn i)))), (a1, .inl (cI, 96, .inl tu)), (a3, .inl (cI, 24, .inl we)), (a5, .inl (cI, 4, .inl (fun i => nI (per i)))), (a6, .inl (cI, 4, .inl rea)), (a8, .inl (cI, 64, .inl rw)), (a12, .inl (cI, 16, .inl cp))])) (vp_Si (fun r9 => r9 = fX7_isNear x y w g)) 0 0 (fun _ => False) := by
  generalize hF : fX7_isNear x y w g = T
  refine Met.ofW (cc := cX7_isNear) (maxL := 6) (ret := (some .boolean)) (by decide) rfl ?_
  intro p e s m args below meth c s₁ B hml hv
  obtain ⟨rfl, hP, hK⟩ := hv
  have hx := B.exec
  have hb := B.bytes
  have hr := B.returns
  have hts := atoms_spec (ws := wsX7_isNear) B.pre
  have hown : s.vm.findClass RX7 = some m.cls := findClass_of_methodNamed B.named
  have hlocks := B.notSynchronized
  have hl := lv_entry ([.ref h, .int x, .int y, .int w, .int g]) (n := 6) (Nat.le_of_ble_eq_true rfl)
  rw [lg_entry_eq]
  generalize (lg_sl ([.ref h, .int x, .int y, .int w, .int g]) ++ List.replicate (6 - (lg_sl ([.ref h, .int x, .int y, .int w, .int g])).length) Slot.unset).toArray = ls at hl ⊢
  refine w_Q (fun Q hQ => ?_)
  have hl : lv_has ls 6 [(0, .ref h), (1, .int x), (2, .int y), (3, .int w), (4, .int g)] := hl
  rw [fX7_isNear] at hF
  refine lv_iload_n hx hb dX7_isNear_0 rfl (lv_at hl 1 rfl) ?_
  refine lv_iload_n hx hb dX7_isNear_1 rfl (lv_at hl 2 rfl) ?_
  refine lv_icmp_ge (tgt := 11) hx hb dX7_isNear_2 (by decide) (fun c2 => ?_) (fun c2 => ?_)
  · rw [if_pos c2] at hF
    refine lv_iload_n hx hb dX7_isNear_11 rfl (lv_at hl 1 rfl) ?_
    refine lv_iload_n hx hb dX7_isNear_12 rfl (lv_at hl 2 rfl) ?_
    refine lv_isub hx hb dX7_isNear_13 ?_
    refine lv_istore (lv' := [(5, .int (x - y)), (0, .ref h), (1, .int x), (2, .int y), (3, .int w), (4, .int g)]) hx hb dX7_isNear_14 hl (by decide) rfl (fun ls hl => ?_)
    refine lv_iload hx hb dX7_isNear_16 (lv_at hl 0 rfl) ?_
    refine lv_iload hx hb dX7_isNear_18 (lv_at hl 5 rfl) ?_
    refine lv_iconst (v := 1) hx hb dX7_isNear_20 (by decide) ?_
    refine lv_iadd hx hb dX7_isNear_21 ?_
    refine lv_iload hx hb dX7_isNear_22 (lv_at hl 5 rfl) ?_
    refine lv_iload_n hx hb dX7_isNear_24 rfl (lv_at hl 4 rfl) ?_
    refine lv_iadd hx hb dX7_isNear_25 ?_
    have hPc := hP.sub (ws' := []) [] rfl
    refine cs_i (va_runS (As := [.int (x - y), .int (g + 1), .int (g + w)]) (rest := []) ⟨hx, hb, hml, hown, hts⟩ (c_X7_in l D cI (x - y) (g + 1) (g + w) ) (va_cwS 3 hts gX7_isNear_X7_in rfl rfl rfl (by decide +kernel) ⟨(Nat.le_of_ble_eq_true rfl), (Nat.le_of_ble_eq_true rfl)⟩) (ro_pre hPc hK) rfl rfl hl.1 rfl (lv_room (Nat.le_of_ble_eq_true rfl)) dX7_isNear_26 ⟨Nat.zero_le _, Nat.zero_le _⟩) ?_
    subst hQ
    exact W.zret (v := fX7_in (x - y) (g + 1) (g + w)) (ty := .boolean) hx hb hr (nb_of (bX7_in ..)) (fun u9 ht hW => ⟨_, rfl, hF, ht⟩) (fun q hq => by cases hq) dX7_isNear_29
  · rw [if_neg c2] at hF
    refine lv_iload_n hx hb dX7_isNear_5 rfl (lv_at hl 2 rfl) ?_
    refine lv_iload_n hx hb dX7_isNear_6 rfl (lv_at hl 1 rfl) ?_
    refine lv_isub hx hb dX7_isNear_7 ?_
    refine lv_goto (tgt := 14) hx hb dX7_isNear_8 (by decide) ?_
    refine lv_istore (lv' := [(5, .int (y - x)), (0, .ref h), (1, .int x), (2, .int y), (3, .int w), (4, .int g)]) hx hb dX7_isNear_14 hl (by decide) rfl (fun ls hl => ?_)
    refine lv_iload hx hb dX7_isNear_16 (lv_at hl 0 rfl) ?_
    refine lv_iload hx hb dX7_isNear_18 (lv_at hl 5 rfl) ?_
    refine lv_iconst (v := 1) hx hb dX7_isNear_20 (by decide) ?_
    refine lv_iadd hx hb dX7_isNear_21 ?_
    refine lv_iload hx hb dX7_isNear_22 (lv_at hl 5 rfl) ?_
    refine lv_iload_n hx hb dX7_isNear_24 rfl (lv_at hl 4 rfl) ?_
    refine lv_iadd hx hb dX7_isNear_25 ?_
    have hPc := hP.sub (ws' := []) [] rfl
    refine cs_i (va_runS (As := [.int (y - x), .int (g + 1), .int (g + w)]) (rest := []) ⟨hx, hb, hml, hown, hts⟩ (c_X7_in l D cI (y - x) (g + 1) (g + w) ) (va_cwS 3 hts gX7_isNear_X7_in rfl rfl rfl (by decide +kernel) ⟨(Nat.le_of_ble_eq_true rfl), (Nat.le_of_ble_eq_true rfl)⟩) (ro_pre hPc hK) rfl rfl hl.1 rfl (lv_room (Nat.le_of_ble_eq_true rfl)) dX7_isNear_26 ⟨Nat.zero_le _, Nat.zero_le _⟩) ?_
    subst hQ
    exact W.zret (v := fX7_in (y - x) (g + 1) (g + w)) (ty := .boolean) hx hb hr (nb_of (bX7_in ..)) (fun u9 ht hW => ⟨_, rfl, hF, ht⟩) (fun q hq => by cases hq) dX7_isNear_29
def F_X7_least_30 (rw : Nat → Int32) (x : Int32) (w : Int32) (g : Int32) (k : Int32) (k3 : Nat) (K3 : Unit → Int32) : Nat → Nat → Int32 → Int32
  | 0, k30, x6 => (if x6 = (k - 1) then rw k3 else K3 ())
  | r30 + 1, k30, x6 => (if (fX7_isNear x (nI k30) w g) = 0 then F_X7_least_30 rw x w g k k3 K3 r30 (k30 + 1) (x6 + 0) else (if (rw k30) < (rw k3) then F_X7_least_30 rw x w g k k3 K3 r30 (k30 + 1) (x6 + 1) else (if (rw k30) = (rw k3) then (if (nI k3) ≤ (nI k30) then F_X7_least_30 rw x w g k k3 K3 r30 (k30 + 1) (x6 + 0) else F_X7_least_30 rw x w g k k3 K3 r30 (k30 + 1) (x6 + 1)) else F_X7_least_30 rw x w g k k3 K3 r30 (k30 + 1) (x6 + 0))))
def F_X7_least_3 (wn : Nat) (rw : Nat → Int32) (x : Int32) (w : Int32) (g : Int32) (k : Int32) : Nat → Nat → Int32
  | 0, k3 => (-1)
  | r3 + 1, k3 => (if (fX7_isNear x (nI k3) w g) = 0 then F_X7_least_3 wn rw x w g k r3 (k3 + 1)  else F_X7_least_30 rw x w g k k3 (fun _ => F_X7_least_3 wn rw x w g k r3 (k3 + 1) ) (wn - 0) 0 0)
def fX7_least (wn : Nat) (rw : Nat → Int32) (x : Int32) (w : Int32) (g : Int32) (k : Int32) : Int32 := F_X7_least_3 wn rw x w g k (wn - 0) 0 
abbrev rmX7_least : Room := { frames := 2, cells := 0, slots := 0, locals := 47 }
set_option maxHeartbeats 4000000 in
set_option maxRecDepth 100000 in
theorem c_X7_least (l : Launch) (D : va_G) (cI : ClassId) (h : Nat) (a0 : Nat) (a1 : Nat) (a3 : Nat) (a5 : Nat) (a6 : Nat) (a8 : Nat) (a12 : Nat) (sn : Nat → Nat) (tu : Nat → Int32) (fn : Nat) (we : Nat → Int32) (rn : Nat) (per : Nat → Nat) (rea : Nat → Int32) (wn : Nat) (rw : Nat → Int32) (bs : Nat) (re : Int32) (ot : Int32) (cp : Nat → Int32) (ab : Int64) (be : Int64) (hh : Int64) (x : Int32) (w : Int32) (g : Int32) (k : Int32) (hwn : wn ≤ 64) : Met l yX7_least wsX7_least rmX7_least (va_Pc [.ref h, .int x, .int w, .int g, .int k] (roP D [(cI, .int)] [(h, .inr (5, [.ref a0, .ref a1, .int (nI fn), .ref a3, .int (nI rn), .ref a5, .ref a6, .int (nI wn), .ref a8, .int (nI bs), .int re, .int ot, .ref a12, .long ab, .long be, .long hh])), (a0, .inl (cI, 6, .inl (fun i => nI (sn i)))), (a1, .inl (cI, 96, .inl tu)), (a3, .inl (cI, 24, .inl we)), (a5, .inl (cI, 4, .inl (fun i => nI (per i)))), (a6, .inl (cI, 4, .inl rea)), (a8, .inl (cI, 64, .inl rw)), (a12, .inl (cI, 16, .inl cp))])) (vp_Si (fun r9 => r9 = fX7_least wn rw x w g k)) 0 0 (fun _ => False) := by
  generalize hF : fX7_least wn rw x w g k = T
  refine Met.ofW (cc := cX7_least) (maxL := 8) (ret := (some .int)) (by decide) rfl ?_
  intro p e s m args below meth c s₁ B hml hv
  obtain ⟨rfl, hP, hK⟩ := hv
  have hx := B.exec
  have hb := B.bytes
  have hr := B.returns
  have hts := atoms_spec (ws := wsX7_least) B.pre
  have hown : s.vm.findClass RX7 = some m.cls := findClass_of_methodNamed B.named
  have hlocks := B.notSynchronized
  have hinX7 : ∀ w ∈ u_ws RX7 TX7 16, w ∈ wsX7_least := by decide +kernel
  have hf97 := hts (.fieldLink RX7 97 "PulseSignsModel" "rowSize" "I") (by decide +kernel)
  have hf32 := hts (.fieldLink RX7 32 "PulseSignsModel" "row" "[I") (by decide +kernel)
  have hl := lv_entry ([.ref h, .int x, .int w, .int g, .int k]) (n := 8) (Nat.le_of_ble_eq_true rfl)
  rw [lg_entry_eq]
  generalize (lg_sl ([.ref h, .int x, .int w, .int g, .int k]) ++ List.replicate (8 - (lg_sl ([.ref h, .int x, .int w, .int g, .int k])).length) Slot.unset).toArray = ls at hl ⊢
  refine w_Q (fun Q hQ => ?_)
  have hl : lv_has ls 8 [(0, .ref h), (1, .int x), (2, .int w), (3, .int g), (4, .int k)] := hl
  rw [fX7_least] at hF
  refine lv_iconst (v := 0) hx hb dX7_least_0 (by decide) ?_
  refine lv_istore (lv' := [(5, .int 0), (0, .ref h), (1, .int x), (2, .int w), (3, .int g), (4, .int k)]) hx hb dX7_least_1 hl (by decide) rfl (fun ls hl => ?_)
  have lp3 : ∀ (r3 k3 : Nat)  (ls : Array Slot), r3 = wn - k3 → k3 ≤ wn + 1 → lv_has ls 8 [(0, .ref h), (1, .int x), (2, .int w), (3, .int g), (4, .int k), (5, .int (nI k3))] → F_X7_least_3 wn rw x w g k r3 k3  = T → W p l e (headSpec wsX7_least rmX7_least).room s m ([.ref h, .int x, .int w, .int g, .int k] : List Value).toArray below meth c s.heap [] 0 0 Q (F0 m 3 ls []) := by
    intro r3
    induction r3 with
    | zero =>
      intro k3  ls hi3_0 hi3_1 hl hF
      rw [F_X7_least_3] at hF
      refine lv_iload hx hb dX7_least_3 (lv_at hl 5 rfl) ?_
      refine lv_aload_n hx hb dX7_least_5 rfl (lv_at hl 0 rfl) ?_
      refine va_get (D := D) (ci := 5) (v := .int (nI wn)) (C := RX7) (T := TX7) (N := 16) hx hb hts hinX7 hown hK.1 hP 0 rfl rfl 7 (by decide) hf97 (fun _ h9 => h9) rfl dX7_least_6 ?_
      refine lv_icmp_ge (tgt := 131) hx hb dX7_least_9 (by decide) (fun c9 => ?_) (fun c9 => ?_)
      · skip
        refine lv_iconst (v := (-1)) hx hb dX7_least_131 (by decide) ?_
        subst hQ
        exact W.iret (v := (-1)) hx hb hr (fun u9 ht hW => ⟨_, rfl, hF, ht⟩) (fun q hq => by cases hq) dX7_least_132
      · exact False.elim (c9 (nI_le (a := wn) (b := k3) (by omega) (by omega)))
    | succ r3 ih3 =>
      intro k3  ls hi3_0 hi3_1 hl hF
      rw [F_X7_least_3] at hF
      refine lv_iload hx hb dX7_least_3 (lv_at hl 5 rfl) ?_
      refine lv_aload_n hx hb dX7_least_5 rfl (lv_at hl 0 rfl) ?_
      refine va_get (D := D) (ci := 5) (v := .int (nI wn)) (C := RX7) (T := TX7) (N := 16) hx hb hts hinX7 hown hK.1 hP 0 rfl rfl 7 (by decide) hf97 (fun _ h9 => h9) rfl dX7_least_6 ?_
      refine lv_icmp_ge (tgt := 131) hx hb dX7_least_9 (by decide) (fun c9 => ?_) (fun c9 => ?_)
      · exact False.elim (nI_ge (a := k3) (b := wn) (by omega) (by omega) c9)
      · skip
        refine lv_aload_n hx hb dX7_least_12 rfl (lv_at hl 0 rfl) ?_
        refine lv_iload_n hx hb dX7_least_13 rfl (lv_at hl 1 rfl) ?_
        refine lv_iload hx hb dX7_least_14 (lv_at hl 5 rfl) ?_
        refine lv_iload_n hx hb dX7_least_16 rfl (lv_at hl 2 rfl) ?_
        refine lv_iload_n hx hb dX7_least_17 rfl (lv_at hl 3 rfl) ?_
        refine cs_i (va_runV (As := [.int x, .int (nI k3), .int w, .int g]) (rest := []) ⟨hx, hb, hml, hown, hts⟩ (c_X7_isNear l D cI h a0 a1 a3 a5 a6 a8 a12 sn tu fn we rn per rea wn rw bs re ot cp ab be hh x (nI k3) w g ) (cwV 4 hts gX7_least_X7_isNear rfl rfl rfl (by decide +kernel) ⟨(Nat.le_of_ble_eq_true rfl), (Nat.le_of_ble_eq_true rfl)⟩) (ro_preV hP hK rfl (q0 := 0) rfl) rfl rfl hl.1 rfl (lv_room (Nat.le_of_ble_eq_true rfl)) dX7_least_18 ⟨Nat.zero_le _, Nat.zero_le _⟩) ?_
        refine lv_if_eq (tgt := 125) hx hb dX7_least_21 (by decide) (fun c21 => ?_) (fun c21 => ?_)
        · rw [if_pos c21] at hF
          refine lv_iinc (v := nI (k3 + 1)) (lv' := [(5, .int (nI (k3 + 1))), (0, .ref h), (1, .int x), (2, .int w), (3, .int g), (4, .int k)]) hx hb dX7_least_125 hl (k := 5) rfl (nI_1 _) (by decide) rfl (fun ls hl => ?_)
          refine lv_goto (tgt := 3) hx hb dX7_least_128 (by decide) ?_
          exact ih3 (k3 + 1)  ls (by omega) (by omega)  (lv_sub hl [1, 2, 3, 4, 5, 0] rfl) hF
        · rw [if_neg c21] at hF
          refine lv_iconst (v := 0) hx hb dX7_least_24 (by decide) ?_
          refine lv_istore (lv' := [(6, .int 0), (0, .ref h), (1, .int x), (2, .int w), (3, .int g), (4, .int k), (5, .int (nI k3))]) hx hb dX7_least_25 hl (by decide) rfl (fun ls hl => ?_)
          refine lv_iconst (v := 0) hx hb dX7_least_27 (by decide) ?_
          refine lv_istore (lv' := [(7, .int 0), (6, .int 0), (0, .ref h), (1, .int x), (2, .int w), (3, .int g), (4, .int k), (5, .int (nI k3))]) hx hb dX7_least_28 hl (by decide) rfl (fun ls hl => ?_)
          have lp30 : ∀ (r30 k30 : Nat) (x6 : Int32) (ls : Array Slot), r30 = wn - k30 → k30 ≤ wn + 1 → lv_has ls 8 [(0, .ref h), (1, .int x), (2, .int w), (3, .int g), (4, .int k), (5, .int (nI k3)), (6, .int x6), (7, .int (nI k30))] → F_X7_least_30 rw x w g k k3 (fun _ => F_X7_least_3 wn rw x w g k r3 (k3 + 1) ) r30 k30 x6 = T → W p l e (headSpec wsX7_least rmX7_least).room s m ([.ref h, .int x, .int w, .int g, .int k] : List Value).toArray below meth c s.heap [] 0 0 Q (F0 m 30 ls []) := by
            intro r30
            induction r30 with
            | zero =>
              intro k30 x6 ls hi30_0 hi30_1 hl hF
              rw [F_X7_least_30] at hF
              refine lv_iload hx hb dX7_least_30 (lv_at hl 7 rfl) ?_
              refine lv_aload_n hx hb dX7_least_32 rfl (lv_at hl 0 rfl) ?_
              refine va_get (D := D) (ci := 5) (v := .int (nI wn)) (C := RX7) (T := TX7) (N := 16) hx hb hts hinX7 hown hK.1 hP 0 rfl rfl 7 (by decide) hf97 (fun _ h9 => h9) rfl dX7_least_33 ?_
              refine lv_icmp_ge (tgt := 108) hx hb dX7_least_36 (by decide) (fun c36 => ?_) (fun c36 => ?_)
              · skip
                refine lv_iload hx hb dX7_least_108 (lv_at hl 6 rfl) ?_
                refine lv_iload hx hb dX7_least_110 (lv_at hl 4 rfl) ?_
                refine lv_iconst (v := 1) hx hb dX7_least_112 (by decide) ?_
                refine lv_isub hx hb dX7_least_113 ?_
                refine lv_icmp_ne (tgt := 125) hx hb dX7_least_114 (by decide) (fun c114 => ?_) (fun c114 => ?_)
                · rw [if_neg c114] at hF
                  refine lv_iinc (v := nI (k3 + 1)) (lv' := [(5, .int (nI (k3 + 1))), (0, .ref h), (1, .int x), (2, .int w), (3, .int g), (4, .int k), (6, .int x6), (7, .int (nI k30))]) hx hb dX7_least_125 hl (k := 5) rfl (nI_1 _) (by decide) rfl (fun ls hl => ?_)
                  refine lv_goto (tgt := 3) hx hb dX7_least_128 (by decide) ?_
                  exact ih3 (k3 + 1)  ls (by omega) (by omega)  (lv_sub hl [1, 2, 3, 4, 5, 0] rfl) hF
                · rw [if_pos c114] at hF
                  refine lv_aload_n hx hb dX7_least_117 rfl (lv_at hl 0 rfl) ?_
                  refine va_get (D := D) (ci := 5) (v := .ref a8) (C := RX7) (T := TX7) (N := 16) hx hb hts hinX7 hown hK.1 hP 0 rfl rfl 8 (by decide) hf32 (fun _ h9 => h9) rfl dX7_least_118 ?_
                  refine lv_iload hx hb dX7_least_121 (lv_at hl 5 rfl) ?_
                  refine w_ald hx hb hK hP 6 0 rfl rfl (k3) rfl (by omega) (by omega) dX7_least_123 ?_
                  subst hQ
                  exact W.iret (v := rw k3) hx hb hr (fun u9 ht hW => ⟨_, rfl, hF, ht⟩) (fun q hq => by cases hq) dX7_least_124
              · exact False.elim (c36 (nI_le (a := wn) (b := k30) (by omega) (by omega)))
            | succ r30 ih30 =>
              intro k30 x6 ls hi30_0 hi30_1 hl hF
              rw [F_X7_least_30] at hF
              refine lv_iload hx hb dX7_least_30 (lv_at hl 7 rfl) ?_
              refine lv_aload_n hx hb dX7_least_32 rfl (lv_at hl 0 rfl) ?_
              refine va_get (D := D) (ci := 5) (v := .int (nI wn)) (C := RX7) (T := TX7) (N := 16) hx hb hts hinX7 hown hK.1 hP 0 rfl rfl 7 (by decide) hf97 (fun _ h9 => h9) rfl dX7_least_33 ?_
              refine lv_icmp_ge (tgt := 108) hx hb dX7_least_36 (by decide) (fun c36 => ?_) (fun c36 => ?_)
              · exact False.elim (nI_ge (a := k30) (b := wn) (by omega) (by omega) c36)
              · skip
                refine lv_iload hx hb dX7_least_39 (lv_at hl 6 rfl) ?_
                refine lv_aload_n hx hb dX7_least_41 rfl (lv_at hl 0 rfl) ?_
                refine lv_iload_n hx hb dX7_least_42 rfl (lv_at hl 1 rfl) ?_
                refine lv_iload hx hb dX7_least_43 (lv_at hl 7 rfl) ?_
                refine lv_iload_n hx hb dX7_least_45 rfl (lv_at hl 2 rfl) ?_
                refine lv_iload_n hx hb dX7_least_46 rfl (lv_at hl 3 rfl) ?_
                refine cs_i (va_runV (As := [.int x, .int (nI k30), .int w, .int g]) (rest := [.int x6]) ⟨hx, hb, hml, hown, hts⟩ (c_X7_isNear l D cI h a0 a1 a3 a5 a6 a8 a12 sn tu fn we rn per rea wn rw bs re ot cp ab be hh x (nI k30) w g ) (cwV 4 hts gX7_least_X7_isNear rfl rfl rfl (by decide +kernel) ⟨(Nat.le_of_ble_eq_true rfl), (Nat.le_of_ble_eq_true rfl)⟩) (ro_preV hP hK rfl (q0 := 0) rfl) rfl rfl hl.1 rfl (lv_room (Nat.le_of_ble_eq_true rfl)) dX7_least_47 ⟨Nat.zero_le _, Nat.zero_le _⟩) ?_
                refine lv_if_eq (tgt := 98) hx hb dX7_least_50 (by decide) (fun c50 => ?_) (fun c50 => ?_)
                · rw [if_pos c50] at hF
                  refine lv_iconst (v := 0) hx hb dX7_least_98 (by decide) ?_
                  refine lv_iadd hx hb dX7_least_99 ?_
                  refine lv_istore (lv' := [(6, .int (x6 + 0)), (0, .ref h), (1, .int x), (2, .int w), (3, .int g), (4, .int k), (5, .int (nI k3)), (7, .int (nI k30))]) hx hb dX7_least_100 hl (by decide) rfl (fun ls hl => ?_)
                  refine lv_iinc (v := nI (k30 + 1)) (lv' := [(7, .int (nI (k30 + 1))), (6, .int (x6 + 0)), (0, .ref h), (1, .int x), (2, .int w), (3, .int g), (4, .int k), (5, .int (nI k3))]) hx hb dX7_least_102 hl (k := 7) rfl (nI_1 _) (by decide) rfl (fun ls hl => ?_)
                  refine lv_goto (tgt := 30) hx hb dX7_least_105 (by decide) ?_
                  exact ih30 (k30 + 1) (x6 + 0) ls (by omega) (by omega)  (lv_sub hl [2, 3, 4, 5, 6, 7, 1, 0] rfl) hF
                · rw [if_neg c50] at hF
                  refine lv_aload_n hx hb dX7_least_53 rfl (lv_at hl 0 rfl) ?_
                  refine va_get (D := D) (ci := 5) (v := .ref a8) (C := RX7) (T := TX7) (N := 16) hx hb hts hinX7 hown hK.1 hP 0 rfl rfl 8 (by decide) hf32 (fun _ h9 => h9) rfl dX7_least_54 ?_
                  refine lv_iload hx hb dX7_least_57 (lv_at hl 7 rfl) ?_
                  refine w_ald hx hb hK hP 6 0 rfl rfl (k30) rfl (by omega) (by omega) dX7_least_59 ?_
                  refine lv_aload_n hx hb dX7_least_60 rfl (lv_at hl 0 rfl) ?_
                  refine va_get (D := D) (ci := 5) (v := .ref a8) (C := RX7) (T := TX7) (N := 16) hx hb hts hinX7 hown hK.1 hP 0 rfl rfl 8 (by decide) hf32 (fun _ h9 => h9) rfl dX7_least_61 ?_
                  refine lv_iload hx hb dX7_least_64 (lv_at hl 5 rfl) ?_
                  refine w_ald hx hb hK hP 6 0 rfl rfl (k3) rfl (by omega) (by omega) dX7_least_66 ?_
                  refine lv_icmp_lt (tgt := 94) hx hb dX7_least_67 (by decide) (fun c67 => ?_) (fun c67 => ?_)
                  · rw [if_pos c67] at hF
                    refine lv_iconst (v := 1) hx hb dX7_least_94 (by decide) ?_
                    refine lv_goto (tgt := 99) hx hb dX7_least_95 (by decide) ?_
                    refine lv_iadd hx hb dX7_least_99 ?_
                    refine lv_istore (lv' := [(6, .int (x6 + 1)), (0, .ref h), (1, .int x), (2, .int w), (3, .int g), (4, .int k), (5, .int (nI k3)), (7, .int (nI k30))]) hx hb dX7_least_100 hl (by decide) rfl (fun ls hl => ?_)
                    refine lv_iinc (v := nI (k30 + 1)) (lv' := [(7, .int (nI (k30 + 1))), (6, .int (x6 + 1)), (0, .ref h), (1, .int x), (2, .int w), (3, .int g), (4, .int k), (5, .int (nI k3))]) hx hb dX7_least_102 hl (k := 7) rfl (nI_1 _) (by decide) rfl (fun ls hl => ?_)
                    refine lv_goto (tgt := 30) hx hb dX7_least_105 (by decide) ?_
                    exact ih30 (k30 + 1) (x6 + 1) ls (by omega) (by omega)  (lv_sub hl [2, 3, 4, 5, 6, 7, 1, 0] rfl) hF
                  · rw [if_neg c67] at hF
                    refine lv_aload_n hx hb dX7_least_70 rfl (lv_at hl 0 rfl) ?_
                    refine va_get (D := D) (ci := 5) (v := .ref a8) (C := RX7) (T := TX7) (N := 16) hx hb hts hinX7 hown hK.1 hP 0 rfl rfl 8 (by decide) hf32 (fun _ h9 => h9) rfl dX7_least_71 ?_
                    refine lv_iload hx hb dX7_least_74 (lv_at hl 7 rfl) ?_
                    refine w_ald hx hb hK hP 6 0 rfl rfl (k30) rfl (by omega) (by omega) dX7_least_76 ?_
                    refine lv_aload_n hx hb dX7_least_77 rfl (lv_at hl 0 rfl) ?_
                    refine va_get (D := D) (ci := 5) (v := .ref a8) (C := RX7) (T := TX7) (N := 16) hx hb hts hinX7 hown hK.1 hP 0 rfl rfl 8 (by decide) hf32 (fun _ h9 => h9) rfl dX7_least_78 ?_
                    refine lv_iload hx hb dX7_least_81 (lv_at hl 5 rfl) ?_
                    refine w_ald hx hb hK hP 6 0 rfl rfl (k3) rfl (by omega) (by omega) dX7_least_83 ?_
                    refine lv_icmp_ne (tgt := 98) hx hb dX7_least_84 (by decide) (fun c84 => ?_) (fun c84 => ?_)
                    · rw [if_neg c84] at hF
                      refine lv_iconst (v := 0) hx hb dX7_least_98 (by decide) ?_
                      refine lv_iadd hx hb dX7_least_99 ?_
                      refine lv_istore (lv' := [(6, .int (x6 + 0)), (0, .ref h), (1, .int x), (2, .int w), (3, .int g), (4, .int k), (5, .int (nI k3)), (7, .int (nI k30))]) hx hb dX7_least_100 hl (by decide) rfl (fun ls hl => ?_)
                      refine lv_iinc (v := nI (k30 + 1)) (lv' := [(7, .int (nI (k30 + 1))), (6, .int (x6 + 0)), (0, .ref h), (1, .int x), (2, .int w), (3, .int g), (4, .int k), (5, .int (nI k3))]) hx hb dX7_least_102 hl (k := 7) rfl (nI_1 _) (by decide) rfl (fun ls hl => ?_)
                      refine lv_goto (tgt := 30) hx hb dX7_least_105 (by decide) ?_
                      exact ih30 (k30 + 1) (x6 + 0) ls (by omega) (by omega)  (lv_sub hl [2, 3, 4, 5, 6, 7, 1, 0] rfl) hF
                    · rw [if_pos c84] at hF
                      refine lv_iload hx hb dX7_least_87 (lv_at hl 7 rfl) ?_
                      refine lv_iload hx hb dX7_least_89 (lv_at hl 5 rfl) ?_
                      refine lv_icmp_ge (tgt := 98) hx hb dX7_least_91 (by decide) (fun c91 => ?_) (fun c91 => ?_)
                      · rw [if_pos c91] at hF
                        refine lv_iconst (v := 0) hx hb dX7_least_98 (by decide) ?_
                        refine lv_iadd hx hb dX7_least_99 ?_
                        refine lv_istore (lv' := [(6, .int (x6 + 0)), (0, .ref h), (1, .int x), (2, .int w), (3, .int g), (4, .int k), (5, .int (nI k3)), (7, .int (nI k30))]) hx hb dX7_least_100 hl (by decide) rfl (fun ls hl => ?_)
                        refine lv_iinc (v := nI (k30 + 1)) (lv' := [(7, .int (nI (k30 + 1))), (6, .int (x6 + 0)), (0, .ref h), (1, .int x), (2, .int w), (3, .int g), (4, .int k), (5, .int (nI k3))]) hx hb dX7_least_102 hl (k := 7) rfl (nI_1 _) (by decide) rfl (fun ls hl => ?_)
                        refine lv_goto (tgt := 30) hx hb dX7_least_105 (by decide) ?_
                        exact ih30 (k30 + 1) (x6 + 0) ls (by omega) (by omega)  (lv_sub hl [2, 3, 4, 5, 6, 7, 1, 0] rfl) hF
                      · rw [if_neg c91] at hF
                        refine lv_iconst (v := 1) hx hb dX7_least_94 (by decide) ?_
                        refine lv_goto (tgt := 99) hx hb dX7_least_95 (by decide) ?_
                        refine lv_iadd hx hb dX7_least_99 ?_
                        refine lv_istore (lv' := [(6, .int (x6 + 1)), (0, .ref h), (1, .int x), (2, .int w), (3, .int g), (4, .int k), (5, .int (nI k3)), (7, .int (nI k30))]) hx hb dX7_least_100 hl (by decide) rfl (fun ls hl => ?_)
                        refine lv_iinc (v := nI (k30 + 1)) (lv' := [(7, .int (nI (k30 + 1))), (6, .int (x6 + 1)), (0, .ref h), (1, .int x), (2, .int w), (3, .int g), (4, .int k), (5, .int (nI k3))]) hx hb dX7_least_102 hl (k := 7) rfl (nI_1 _) (by decide) rfl (fun ls hl => ?_)
                        refine lv_goto (tgt := 30) hx hb dX7_least_105 (by decide) ?_
                        exact ih30 (k30 + 1) (x6 + 1) ls (by omega) (by omega)  (lv_sub hl [2, 3, 4, 5, 6, 7, 1, 0] rfl) hF
          exact lp30 (wn - 0) 0 0 ls rfl (by omega)  (lv_sub hl [2, 3, 4, 5, 6, 7, 1, 0] rfl) hF
  exact lp3 (wn - 0) 0  ls rfl (by omega)  (lv_sub hl [1, 2, 3, 4, 5, 0] rfl) hF
def fX7_isFound (wn : Nat) (rw : Nat → Int32) (x : Nat) (w : Int32) (g : Int32) (k : Int32) (sc : Int32) : Int32 := (if (fX7_least wn rw (nI x) w g k) = (-1) then 0 else (if (10 * (rw x)) ≤ (sc * (fX7_least wn rw (nI x) w g k)) then 0 else 1))
abbrev rmX7_isFound : Room := { frames := 3, cells := 0, slots := 0, locals := 74 }
set_option maxHeartbeats 4000000 in
set_option maxRecDepth 100000 in
theorem c_X7_isFound (l : Launch) (D : va_G) (cI : ClassId) (h : Nat) (a0 : Nat) (a1 : Nat) (a3 : Nat) (a5 : Nat) (a6 : Nat) (a8 : Nat) (a12 : Nat) (sn : Nat → Nat) (tu : Nat → Int32) (fn : Nat) (we : Nat → Int32) (rn : Nat) (per : Nat → Nat) (rea : Nat → Int32) (wn : Nat) (rw : Nat → Int32) (bs : Nat) (re : Int32) (ot : Int32) (cp : Nat → Int32) (ab : Int64) (be : Int64) (hh : Int64) (x : Nat) (w : Int32) (g : Int32) (k : Int32) (sc : Int32) (hwn : wn ≤ 64) (hx0 : x < 64) : Met l yX7_isFound wsX7_isFound rmX7_isFound (va_Pc [.ref h, .int (nI x), .int w, .int g, .int k, .int sc] (roP D [(cI, .int)] [(h, .inr (5, [.ref a0, .ref a1, .int (nI fn), .ref a3, .int (nI rn), .ref a5, .ref a6, .int (nI wn), .ref a8, .int (nI bs), .int re, .int ot, .ref a12, .long ab, .long be, .long hh])), (a0, .inl (cI, 6, .inl (fun i => nI (sn i)))), (a1, .inl (cI, 96, .inl tu)), (a3, .inl (cI, 24, .inl we)), (a5, .inl (cI, 4, .inl (fun i => nI (per i)))), (a6, .inl (cI, 4, .inl rea)), (a8, .inl (cI, 64, .inl rw)), (a12, .inl (cI, 16, .inl cp))])) (vp_Si (fun r9 => r9 = fX7_isFound wn rw x w g k sc)) 0 0 (fun _ => False) := by
  generalize hF : fX7_isFound wn rw x w g k sc = T
  refine Met.ofW (cc := cX7_isFound) (maxL := 7) (ret := (some .boolean)) (by decide) rfl ?_
  intro p e s m args below meth c s₁ B hml hv
  obtain ⟨rfl, hP, hK⟩ := hv
  have hx := B.exec
  have hb := B.bytes
  have hr := B.returns
  have hts := atoms_spec (ws := wsX7_isFound) B.pre
  have hown : s.vm.findClass RX7 = some m.cls := findClass_of_methodNamed B.named
  have hlocks := B.notSynchronized
  have hinX7 : ∀ w ∈ u_ws RX7 TX7 16, w ∈ wsX7_isFound := by decide +kernel
  have hf32 := hts (.fieldLink RX7 32 "PulseSignsModel" "row" "[I") (by decide +kernel)
  have hl := lv_entry ([.ref h, .int (nI x), .int w, .int g, .int k, .int sc]) (n := 7) (Nat.le_of_ble_eq_true rfl)
  rw [lg_entry_eq]
  generalize (lg_sl ([.ref h, .int (nI x), .int w, .int g, .int k, .int sc]) ++ List.replicate (7 - (lg_sl ([.ref h, .int (nI x), .int w, .int g, .int k, .int sc])).length) Slot.unset).toArray = ls at hl ⊢
  refine w_Q (fun Q hQ => ?_)
  have hl : lv_has ls 7 [(0, .ref h), (1, .int (nI x)), (2, .int w), (3, .int g), (4, .int k), (5, .int sc)] := hl
  rw [fX7_isFound] at hF
  refine lv_aload_n hx hb dX7_isFound_0 rfl (lv_at hl 0 rfl) ?_
  refine lv_iload_n hx hb dX7_isFound_1 rfl (lv_at hl 1 rfl) ?_
  refine lv_iload_n hx hb dX7_isFound_2 rfl (lv_at hl 2 rfl) ?_
  refine lv_iload_n hx hb dX7_isFound_3 rfl (lv_at hl 3 rfl) ?_
  refine lv_iload hx hb dX7_isFound_4 (lv_at hl 4 rfl) ?_
  refine cs_i (va_runV (As := [.int (nI x), .int w, .int g, .int k]) (rest := []) ⟨hx, hb, hml, hown, hts⟩ (c_X7_least l D cI h a0 a1 a3 a5 a6 a8 a12 sn tu fn we rn per rea wn rw bs re ot cp ab be hh (nI x) w g k (by first | assumption | omega)) (cwV 4 hts gX7_isFound_X7_least rfl rfl rfl (by decide +kernel) ⟨(Nat.le_of_ble_eq_true rfl), (Nat.le_of_ble_eq_true rfl)⟩) (ro_preV hP hK rfl (q0 := 0) rfl) rfl rfl hl.1 rfl (lv_room (Nat.le_of_ble_eq_true rfl)) dX7_isFound_6 ⟨Nat.zero_le _, Nat.zero_le _⟩) ?_
  refine lv_istore (lv' := [(6, .int (fX7_least wn rw (nI x) w g k)), (0, .ref h), (1, .int (nI x)), (2, .int w), (3, .int g), (4, .int k), (5, .int sc)]) hx hb dX7_isFound_9 hl (by decide) rfl (fun ls hl => ?_)
  refine lv_iload hx hb dX7_isFound_11 (lv_at hl 0 rfl) ?_
  refine lv_iconst (v := (-1)) hx hb dX7_isFound_13 (by decide) ?_
  refine lv_icmp_eq (tgt := 38) hx hb dX7_isFound_14 (by decide) (fun c14 => ?_) (fun c14 => ?_)
  · rw [if_pos c14] at hF
    refine lv_iconst (v := 0) hx hb dX7_isFound_38 (by decide) ?_
    subst hQ
    exact W.zret (v := 0) (ty := .boolean) hx hb hr rfl (fun u9 ht hW => ⟨_, rfl, hF, ht⟩) (fun q hq => by cases hq) dX7_isFound_39
  · rw [if_neg c14] at hF
    refine lv_bipush (v := 10) hx hb dX7_isFound_17 (by decide) ?_
    refine lv_aload_n hx hb dX7_isFound_19 rfl (lv_at hl 1 rfl) ?_
    refine va_get (D := D) (ci := 5) (v := .ref a8) (C := RX7) (T := TX7) (N := 16) hx hb hts hinX7 hown hK.1 hP 0 rfl rfl 8 (by decide) hf32 (fun _ h9 => h9) rfl dX7_isFound_20 ?_
    refine lv_iload_n hx hb dX7_isFound_23 rfl (lv_at hl 2 rfl) ?_
    refine w_ald hx hb hK hP 6 0 rfl rfl (x) rfl (by omega) (by omega) dX7_isFound_24 ?_
    refine lv_imul hx hb dX7_isFound_25 ?_
    refine lv_iload hx hb dX7_isFound_26 (lv_at hl 6 rfl) ?_
    refine lv_iload hx hb dX7_isFound_28 (lv_at hl 0 rfl) ?_
    refine lv_imul hx hb dX7_isFound_30 ?_
    refine lv_icmp_le (tgt := 38) hx hb dX7_isFound_31 (by decide) (fun c31 => ?_) (fun c31 => ?_)
    · rw [if_pos c31] at hF
      refine lv_iconst (v := 0) hx hb dX7_isFound_38 (by decide) ?_
      subst hQ
      exact W.zret (v := 0) (ty := .boolean) hx hb hr rfl (fun u9 ht hW => ⟨_, rfl, hF, ht⟩) (fun q hq => by cases hq) dX7_isFound_39
    · rw [if_neg c31] at hF
      refine lv_iconst (v := 1) hx hb dX7_isFound_34 (by decide) ?_
      refine lv_goto (tgt := 39) hx hb dX7_isFound_35 (by decide) ?_
      subst hQ
      exact W.zret (v := 1) (ty := .boolean) hx hb hr rfl (fun u9 ht hW => ⟨_, rfl, hF, ht⟩) (fun q hq => by cases hq) dX7_isFound_39
def fX7_isScaled (w : Int32) (g : Int32) (k : Int32) (sc : Int32) : Int32 := (if (fX7_in w 1 8) = 0 then 0 else (if (fX7_in g 0 3) = 0 then 0 else (if (fX7_in k 1 8) = 0 then 0 else (if (fX7_in sc 1 500) = 0 then 0 else 1))))
abbrev rmX7_isScaled : Room := { frames := 1, cells := 0, slots := 0, locals := 22 }
set_option maxHeartbeats 4000000 in
set_option maxRecDepth 100000 in
theorem c_X7_isScaled (l : Launch) (D : va_G) (cI : ClassId) (w : Int32) (g : Int32) (k : Int32) (sc : Int32)  : Met l yX7_isScaled wsX7_isScaled rmX7_isScaled (va_Pc [.int w, .int g, .int k, .int sc] (roP D [(cI, .int)] [])) (vp_Si (fun r9 => r9 = fX7_isScaled w g k sc)) 0 0 (fun _ => False) := by
  generalize hF : fX7_isScaled w g k sc = T
  refine Met.ofW (cc := cX7_isScaled) (maxL := 4) (ret := (some .boolean)) (by decide) rfl ?_
  intro p e s m args below meth c s₁ B hml hv
  obtain ⟨rfl, hP, hK⟩ := hv
  have hx := B.exec
  have hb := B.bytes
  have hr := B.returns
  have hts := atoms_spec (ws := wsX7_isScaled) B.pre
  have hown : s.vm.findClass RX7 = some m.cls := findClass_of_methodNamed B.named
  have hlocks := B.notSynchronized
  have hl := lv_entry ([.int w, .int g, .int k, .int sc]) (n := 4) (Nat.le_of_ble_eq_true rfl)
  rw [lg_entry_eq]
  generalize (lg_sl ([.int w, .int g, .int k, .int sc]) ++ List.replicate (4 - (lg_sl ([.int w, .int g, .int k, .int sc])).length) Slot.unset).toArray = ls at hl ⊢
  refine w_Q (fun Q hQ => ?_)
  have hl : lv_has ls 4 [(0, .int w), (1, .int g), (2, .int k), (3, .int sc)] := hl
  rw [fX7_isScaled] at hF
  refine lv_iload_n hx hb dX7_isScaled_0 rfl (lv_at hl 0 rfl) ?_
  refine lv_iconst (v := 1) hx hb dX7_isScaled_1 (by decide) ?_
  refine lv_bipush (v := 8) hx hb dX7_isScaled_2 (by decide) ?_
  refine cs_i (va_runS (As := [.int w, .int 1, .int 8]) (rest := []) ⟨hx, hb, hml, hown, hts⟩ (c_X7_in l D cI w 1 8 ) (va_cwS 3 hts gX7_isScaled_X7_in rfl rfl rfl (by decide +kernel) ⟨(Nat.le_of_ble_eq_true rfl), (Nat.le_of_ble_eq_true rfl)⟩) (ro_pre hP hK) rfl rfl hl.1 rfl (lv_room (Nat.le_of_ble_eq_true rfl)) dX7_isScaled_4 ⟨Nat.zero_le _, Nat.zero_le _⟩) ?_
  refine lv_if_eq (tgt := 44) hx hb dX7_isScaled_7 (by decide) (fun c7 => ?_) (fun c7 => ?_)
  · rw [if_pos c7] at hF
    refine lv_iconst (v := 0) hx hb dX7_isScaled_44 (by decide) ?_
    subst hQ
    exact W.zret (v := 0) (ty := .boolean) hx hb hr rfl (fun u9 ht hW => ⟨_, rfl, hF, ht⟩) (fun q hq => by cases hq) dX7_isScaled_45
  · rw [if_neg c7] at hF
    refine lv_iload_n hx hb dX7_isScaled_10 rfl (lv_at hl 1 rfl) ?_
    refine lv_iconst (v := 0) hx hb dX7_isScaled_11 (by decide) ?_
    refine lv_iconst (v := 3) hx hb dX7_isScaled_12 (by decide) ?_
    refine cs_i (va_runS (As := [.int g, .int 0, .int 3]) (rest := []) ⟨hx, hb, hml, hown, hts⟩ (c_X7_in l D cI g 0 3 ) (va_cwS 3 hts gX7_isScaled_X7_in rfl rfl rfl (by decide +kernel) ⟨(Nat.le_of_ble_eq_true rfl), (Nat.le_of_ble_eq_true rfl)⟩) (ro_pre hP hK) rfl rfl hl.1 rfl (lv_room (Nat.le_of_ble_eq_true rfl)) dX7_isScaled_13 ⟨Nat.zero_le _, Nat.zero_le _⟩) ?_
    refine lv_if_eq (tgt := 44) hx hb dX7_isScaled_16 (by decide) (fun c16 => ?_) (fun c16 => ?_)
    · rw [if_pos c16] at hF
      refine lv_iconst (v := 0) hx hb dX7_isScaled_44 (by decide) ?_
      subst hQ
      exact W.zret (v := 0) (ty := .boolean) hx hb hr rfl (fun u9 ht hW => ⟨_, rfl, hF, ht⟩) (fun q hq => by cases hq) dX7_isScaled_45
    · rw [if_neg c16] at hF
      refine lv_iload_n hx hb dX7_isScaled_19 rfl (lv_at hl 2 rfl) ?_
      refine lv_iconst (v := 1) hx hb dX7_isScaled_20 (by decide) ?_
      refine lv_bipush (v := 8) hx hb dX7_isScaled_21 (by decide) ?_
      refine cs_i (va_runS (As := [.int k, .int 1, .int 8]) (rest := []) ⟨hx, hb, hml, hown, hts⟩ (c_X7_in l D cI k 1 8 ) (va_cwS 3 hts gX7_isScaled_X7_in rfl rfl rfl (by decide +kernel) ⟨(Nat.le_of_ble_eq_true rfl), (Nat.le_of_ble_eq_true rfl)⟩) (ro_pre hP hK) rfl rfl hl.1 rfl (lv_room (Nat.le_of_ble_eq_true rfl)) dX7_isScaled_23 ⟨Nat.zero_le _, Nat.zero_le _⟩) ?_
      refine lv_if_eq (tgt := 44) hx hb dX7_isScaled_26 (by decide) (fun c26 => ?_) (fun c26 => ?_)
      · rw [if_pos c26] at hF
        refine lv_iconst (v := 0) hx hb dX7_isScaled_44 (by decide) ?_
        subst hQ
        exact W.zret (v := 0) (ty := .boolean) hx hb hr rfl (fun u9 ht hW => ⟨_, rfl, hF, ht⟩) (fun q hq => by cases hq) dX7_isScaled_45
      · rw [if_neg c26] at hF
        refine lv_iload_n hx hb dX7_isScaled_29 rfl (lv_at hl 3 rfl) ?_
        refine lv_iconst (v := 1) hx hb dX7_isScaled_30 (by decide) ?_
        refine lv_sipush (v := 500) hx hb dX7_isScaled_31 (by decide) ?_
        refine cs_i (va_runS (As := [.int sc, .int 1, .int 500]) (rest := []) ⟨hx, hb, hml, hown, hts⟩ (c_X7_in l D cI sc 1 500 ) (va_cwS 3 hts gX7_isScaled_X7_in rfl rfl rfl (by decide +kernel) ⟨(Nat.le_of_ble_eq_true rfl), (Nat.le_of_ble_eq_true rfl)⟩) (ro_pre hP hK) rfl rfl hl.1 rfl (lv_room (Nat.le_of_ble_eq_true rfl)) dX7_isScaled_34 ⟨Nat.zero_le _, Nat.zero_le _⟩) ?_
        refine lv_if_eq (tgt := 44) hx hb dX7_isScaled_37 (by decide) (fun c37 => ?_) (fun c37 => ?_)
        · rw [if_pos c37] at hF
          refine lv_iconst (v := 0) hx hb dX7_isScaled_44 (by decide) ?_
          subst hQ
          exact W.zret (v := 0) (ty := .boolean) hx hb hr rfl (fun u9 ht hW => ⟨_, rfl, hF, ht⟩) (fun q hq => by cases hq) dX7_isScaled_45
        · rw [if_neg c37] at hF
          refine lv_iconst (v := 1) hx hb dX7_isScaled_40 (by decide) ?_
          refine lv_goto (tgt := 45) hx hb dX7_isScaled_41 (by decide) ?_
          subst hQ
          exact W.zret (v := 1) (ty := .boolean) hx hb hr rfl (fun u9 ht hW => ⟨_, rfl, hF, ht⟩) (fun q hq => by cases hq) dX7_isScaled_45
def fX7_found (wn : Nat) (rw : Nat → Int32) (xx : Int32) (w : Int32) (g : Int32) (k : Int32) (sc : Int32) : Int32 := (if (fX7_in xx 0 ((nI wn) - 1)) = 0 then (-101) else (if (fX7_isScaled w g k sc) = 0 then (-102) else (if (fX7_isFound wn rw (xx.toNatClampNeg) w g k sc) = 0 then 0 else 1)))
abbrev rmX7_found : Room := { frames := 4, cells := 0, slots := 0, locals := 100 }
set_option maxHeartbeats 4000000 in
set_option maxRecDepth 100000 in
theorem c_X7_found (l : Launch) (D : va_G) (cI : ClassId) (h : Nat) (a0 : Nat) (a1 : Nat) (a3 : Nat) (a5 : Nat) (a6 : Nat) (a8 : Nat) (a12 : Nat) (sn : Nat → Nat) (tu : Nat → Int32) (fn : Nat) (we : Nat → Int32) (rn : Nat) (per : Nat → Nat) (rea : Nat → Int32) (wn : Nat) (rw : Nat → Int32) (bs : Nat) (re : Int32) (ot : Int32) (cp : Nat → Int32) (ab : Int64) (be : Int64) (hh : Int64) (xx : Int32) (w : Int32) (g : Int32) (k : Int32) (sc : Int32) (hwn : wn ≤ 64) : Met l yX7_found wsX7_found rmX7_found (va_Pc [.ref h, .int xx, .int w, .int g, .int k, .int sc] (roP D [(cI, .int)] [(h, .inr (5, [.ref a0, .ref a1, .int (nI fn), .ref a3, .int (nI rn), .ref a5, .ref a6, .int (nI wn), .ref a8, .int (nI bs), .int re, .int ot, .ref a12, .long ab, .long be, .long hh])), (a0, .inl (cI, 6, .inl (fun i => nI (sn i)))), (a1, .inl (cI, 96, .inl tu)), (a3, .inl (cI, 24, .inl we)), (a5, .inl (cI, 4, .inl (fun i => nI (per i)))), (a6, .inl (cI, 4, .inl rea)), (a8, .inl (cI, 64, .inl rw)), (a12, .inl (cI, 16, .inl cp))])) (vp_Si (fun r9 => r9 = fX7_found wn rw xx w g k sc)) 0 0 (fun _ => False) := by
  generalize hF : fX7_found wn rw xx w g k sc = T
  refine Met.ofW (cc := cX7_found) (maxL := 6) (ret := (some .int)) (by decide) rfl ?_
  intro p e s m args below meth c s₁ B hml hv
  obtain ⟨rfl, hP, hK⟩ := hv
  have hx := B.exec
  have hb := B.bytes
  have hr := B.returns
  have hts := atoms_spec (ws := wsX7_found) B.pre
  have hown : s.vm.findClass RX7 = some m.cls := findClass_of_methodNamed B.named
  have hlocks := B.notSynchronized
  have hinX7 : ∀ w ∈ u_ws RX7 TX7 16, w ∈ wsX7_found := by decide +kernel
  have hf97 := hts (.fieldLink RX7 97 "PulseSignsModel" "rowSize" "I") (by decide +kernel)
  have hl := lv_entry ([.ref h, .int xx, .int w, .int g, .int k, .int sc]) (n := 6) (Nat.le_of_ble_eq_true rfl)
  rw [lg_entry_eq]
  generalize (lg_sl ([.ref h, .int xx, .int w, .int g, .int k, .int sc]) ++ List.replicate (6 - (lg_sl ([.ref h, .int xx, .int w, .int g, .int k, .int sc])).length) Slot.unset).toArray = ls at hl ⊢
  refine w_Q (fun Q hQ => ?_)
  have hl : lv_has ls 6 [(0, .ref h), (1, .int xx), (2, .int w), (3, .int g), (4, .int k), (5, .int sc)] := hl
  rw [fX7_found] at hF
  refine lv_iload_n hx hb dX7_found_0 rfl (lv_at hl 1 rfl) ?_
  refine lv_iconst (v := 0) hx hb dX7_found_1 (by decide) ?_
  refine lv_aload_n hx hb dX7_found_2 rfl (lv_at hl 0 rfl) ?_
  refine va_get (D := D) (ci := 5) (v := .int (nI wn)) (C := RX7) (T := TX7) (N := 16) hx hb hts hinX7 hown hK.1 hP 0 rfl rfl 7 (by decide) hf97 (fun _ h9 => h9) rfl dX7_found_3 ?_
  refine lv_iconst (v := 1) hx hb dX7_found_6 (by decide) ?_
  refine lv_isub hx hb dX7_found_7 ?_
  have hPc := hP.sub (ws' := []) [] rfl
  refine cs_i (va_runS (As := [.int xx, .int 0, .int ((nI wn) - 1)]) (rest := []) ⟨hx, hb, hml, hown, hts⟩ (c_X7_in l D cI xx 0 ((nI wn) - 1) ) (va_cwS 3 hts gX7_found_X7_in rfl rfl rfl (by decide +kernel) ⟨(Nat.le_of_ble_eq_true rfl), (Nat.le_of_ble_eq_true rfl)⟩) (ro_pre hPc hK) rfl rfl hl.1 rfl (lv_room (Nat.le_of_ble_eq_true rfl)) dX7_found_8 ⟨Nat.zero_le _, Nat.zero_le _⟩) ?_
  refine lv_if_ne (tgt := 17) hx hb dX7_found_11 (by decide) (fun c11 => ?_) (fun c11 => ?_)
  · rw [if_neg c11] at hF
    obtain ⟨xn, hxn, rfl⟩ := in_m1 c11 (by omega)
    have e_xn : (nI xn).toNatClampNeg = xn := nI_clamp (by omega)
    try simp only [e_xn] at hF
    refine lv_iload_n hx hb dX7_found_17 rfl (lv_at hl 2 rfl) ?_
    refine lv_iload_n hx hb dX7_found_18 rfl (lv_at hl 3 rfl) ?_
    refine lv_iload hx hb dX7_found_19 (lv_at hl 4 rfl) ?_
    refine lv_iload hx hb dX7_found_21 (lv_at hl 5 rfl) ?_
    have hPc := hP.sub (ws' := []) [] rfl
    refine cs_i (va_runS (As := [.int w, .int g, .int k, .int sc]) (rest := []) ⟨hx, hb, hml, hown, hts⟩ (c_X7_isScaled l D cI w g k sc ) (va_cwS 4 hts gX7_found_X7_isScaled rfl rfl rfl (by decide +kernel) ⟨(Nat.le_of_ble_eq_true rfl), (Nat.le_of_ble_eq_true rfl)⟩) (ro_pre hPc hK) rfl rfl hl.1 rfl (lv_room (Nat.le_of_ble_eq_true rfl)) dX7_found_23 ⟨Nat.zero_le _, Nat.zero_le _⟩) ?_
    refine lv_if_ne (tgt := 32) hx hb dX7_found_26 (by decide) (fun c26 => ?_) (fun c26 => ?_)
    · rw [if_neg c26] at hF
      refine lv_aload_n hx hb dX7_found_32 rfl (lv_at hl 0 rfl) ?_
      refine lv_iload_n hx hb dX7_found_33 rfl (lv_at hl 1 rfl) ?_
      refine lv_iload_n hx hb dX7_found_34 rfl (lv_at hl 2 rfl) ?_
      refine lv_iload_n hx hb dX7_found_35 rfl (lv_at hl 3 rfl) ?_
      refine lv_iload hx hb dX7_found_36 (lv_at hl 4 rfl) ?_
      refine lv_iload hx hb dX7_found_38 (lv_at hl 5 rfl) ?_
      refine cs_i (va_runV (As := [.int (nI xn), .int w, .int g, .int k, .int sc]) (rest := []) ⟨hx, hb, hml, hown, hts⟩ (c_X7_isFound l D cI h a0 a1 a3 a5 a6 a8 a12 sn tu fn we rn per rea wn rw bs re ot cp ab be hh xn w g k sc (by first | assumption | omega) (by first | assumption | omega)) (cwV 5 hts gX7_found_X7_isFound rfl rfl rfl (by decide +kernel) ⟨(Nat.le_of_ble_eq_true rfl), (Nat.le_of_ble_eq_true rfl)⟩) (ro_preV hP hK rfl (q0 := 0) rfl) rfl rfl hl.1 rfl (lv_room (Nat.le_of_ble_eq_true rfl)) dX7_found_40 ⟨Nat.zero_le _, Nat.zero_le _⟩) ?_
      refine lv_if_eq (tgt := 50) hx hb dX7_found_43 (by decide) (fun c43 => ?_) (fun c43 => ?_)
      · rw [if_pos c43] at hF
        refine lv_iconst (v := 0) hx hb dX7_found_50 (by decide) ?_
        subst hQ
        exact W.iret (v := 0) hx hb hr (fun u9 ht hW => ⟨_, rfl, hF, ht⟩) (fun q hq => by cases hq) dX7_found_51
      · rw [if_neg c43] at hF
        refine lv_iconst (v := 1) hx hb dX7_found_46 (by decide) ?_
        refine lv_goto (tgt := 51) hx hb dX7_found_47 (by decide) ?_
        subst hQ
        exact W.iret (v := 1) hx hb hr (fun u9 ht hW => ⟨_, rfl, hF, ht⟩) (fun q hq => by cases hq) dX7_found_51
    · rw [if_pos c26] at hF
      refine lv_bipush (v := (-102)) hx hb dX7_found_29 (by decide) ?_
      subst hQ
      exact W.iret (v := (-102)) hx hb hr (fun u9 ht hW => ⟨_, rfl, hF, ht⟩) (fun q hq => by cases hq) dX7_found_31
  · rw [if_pos c11] at hF
    refine lv_bipush (v := (-101)) hx hb dX7_found_14 (by decide) ?_
    subst hQ
    exact W.iret (v := (-101)) hx hb hr (fun u9 ht hW => ⟨_, rfl, hF, ht⟩) (fun q hq => by cases hq) dX7_found_16
def F_X7_count_20 (wn : Nat) (rw : Nat → Int32) (w : Int32) (g : Int32) (k : Int32) (sc : Int32) : Nat → Nat → Int32 → Int32
  | 0, k20, x5 => x5
  | r20 + 1, k20, x5 => (if (fX7_isFound wn rw k20 w g k sc) = 0 then F_X7_count_20 wn rw w g k sc r20 (k20 + 1) (x5 + 0) else F_X7_count_20 wn rw w g k sc r20 (k20 + 1) (x5 + 1))
def fX7_count (wn : Nat) (rw : Nat → Int32) (w : Int32) (g : Int32) (k : Int32) (sc : Int32) : Int32 := (if (fX7_isScaled w g k sc) = 0 then (-102) else F_X7_count_20 wn rw w g k sc (wn - 0) 0 0)
abbrev rmX7_count : Room := { frames := 4, cells := 0, slots := 0, locals := 100 }
set_option maxHeartbeats 4000000 in
set_option maxRecDepth 100000 in
theorem c_X7_count (l : Launch) (D : va_G) (cI : ClassId) (h : Nat) (a0 : Nat) (a1 : Nat) (a3 : Nat) (a5 : Nat) (a6 : Nat) (a8 : Nat) (a12 : Nat) (sn : Nat → Nat) (tu : Nat → Int32) (fn : Nat) (we : Nat → Int32) (rn : Nat) (per : Nat → Nat) (rea : Nat → Int32) (wn : Nat) (rw : Nat → Int32) (bs : Nat) (re : Int32) (ot : Int32) (cp : Nat → Int32) (ab : Int64) (be : Int64) (hh : Int64) (w : Int32) (g : Int32) (k : Int32) (sc : Int32) (hwn : wn ≤ 64) : Met l yX7_count wsX7_count rmX7_count (va_Pc [.ref h, .int w, .int g, .int k, .int sc] (roP D [(cI, .int)] [(h, .inr (5, [.ref a0, .ref a1, .int (nI fn), .ref a3, .int (nI rn), .ref a5, .ref a6, .int (nI wn), .ref a8, .int (nI bs), .int re, .int ot, .ref a12, .long ab, .long be, .long hh])), (a0, .inl (cI, 6, .inl (fun i => nI (sn i)))), (a1, .inl (cI, 96, .inl tu)), (a3, .inl (cI, 24, .inl we)), (a5, .inl (cI, 4, .inl (fun i => nI (per i)))), (a6, .inl (cI, 4, .inl rea)), (a8, .inl (cI, 64, .inl rw)), (a12, .inl (cI, 16, .inl cp))])) (vp_Si (fun r9 => r9 = fX7_count wn rw w g k sc)) 0 0 (fun _ => False) := by
  generalize hF : fX7_count wn rw w g k sc = T
  refine Met.ofW (cc := cX7_count) (maxL := 7) (ret := (some .int)) (by decide) rfl ?_
  intro p e s m args below meth c s₁ B hml hv
  obtain ⟨rfl, hP, hK⟩ := hv
  have hx := B.exec
  have hb := B.bytes
  have hr := B.returns
  have hts := atoms_spec (ws := wsX7_count) B.pre
  have hown : s.vm.findClass RX7 = some m.cls := findClass_of_methodNamed B.named
  have hlocks := B.notSynchronized
  have hinX7 : ∀ w ∈ u_ws RX7 TX7 16, w ∈ wsX7_count := by decide +kernel
  have hf97 := hts (.fieldLink RX7 97 "PulseSignsModel" "rowSize" "I") (by decide +kernel)
  have hl := lv_entry ([.ref h, .int w, .int g, .int k, .int sc]) (n := 7) (Nat.le_of_ble_eq_true rfl)
  rw [lg_entry_eq]
  generalize (lg_sl ([.ref h, .int w, .int g, .int k, .int sc]) ++ List.replicate (7 - (lg_sl ([.ref h, .int w, .int g, .int k, .int sc])).length) Slot.unset).toArray = ls at hl ⊢
  refine w_Q (fun Q hQ => ?_)
  have hl : lv_has ls 7 [(0, .ref h), (1, .int w), (2, .int g), (3, .int k), (4, .int sc)] := hl
  rw [fX7_count] at hF
  refine lv_iload_n hx hb dX7_count_0 rfl (lv_at hl 1 rfl) ?_
  refine lv_iload_n hx hb dX7_count_1 rfl (lv_at hl 2 rfl) ?_
  refine lv_iload_n hx hb dX7_count_2 rfl (lv_at hl 3 rfl) ?_
  refine lv_iload hx hb dX7_count_3 (lv_at hl 4 rfl) ?_
  have hPc := hP.sub (ws' := []) [] rfl
  refine cs_i (va_runS (As := [.int w, .int g, .int k, .int sc]) (rest := []) ⟨hx, hb, hml, hown, hts⟩ (c_X7_isScaled l D cI w g k sc ) (va_cwS 4 hts gX7_count_X7_isScaled rfl rfl rfl (by decide +kernel) ⟨(Nat.le_of_ble_eq_true rfl), (Nat.le_of_ble_eq_true rfl)⟩) (ro_pre hPc hK) rfl rfl hl.1 rfl (lv_room (Nat.le_of_ble_eq_true rfl)) dX7_count_5 ⟨Nat.zero_le _, Nat.zero_le _⟩) ?_
  refine lv_if_ne (tgt := 14) hx hb dX7_count_8 (by decide) (fun c8 => ?_) (fun c8 => ?_)
  · rw [if_neg c8] at hF
    refine lv_iconst (v := 0) hx hb dX7_count_14 (by decide) ?_
    refine lv_istore (lv' := [(5, .int 0), (0, .ref h), (1, .int w), (2, .int g), (3, .int k), (4, .int sc)]) hx hb dX7_count_15 hl (by decide) rfl (fun ls hl => ?_)
    refine lv_iconst (v := 0) hx hb dX7_count_17 (by decide) ?_
    refine lv_istore (lv' := [(6, .int 0), (5, .int 0), (0, .ref h), (1, .int w), (2, .int g), (3, .int k), (4, .int sc)]) hx hb dX7_count_18 hl (by decide) rfl (fun ls hl => ?_)
    have lp20 : ∀ (r20 k20 : Nat) (x5 : Int32) (ls : Array Slot), r20 = wn - k20 → k20 ≤ wn + 1 → lv_has ls 7 [(0, .ref h), (1, .int w), (2, .int g), (3, .int k), (4, .int sc), (5, .int x5), (6, .int (nI k20))] → F_X7_count_20 wn rw w g k sc r20 k20 x5 = T → W p l e (headSpec wsX7_count rmX7_count).room s m ([.ref h, .int w, .int g, .int k, .int sc] : List Value).toArray below meth c s.heap [] 0 0 Q (F0 m 20 ls []) := by
      intro r20
      induction r20 with
      | zero =>
        intro k20 x5 ls hi20_0 hi20_1 hl hF
        rw [F_X7_count_20] at hF
        refine lv_iload hx hb dX7_count_20 (lv_at hl 6 rfl) ?_
        refine lv_aload_n hx hb dX7_count_22 rfl (lv_at hl 0 rfl) ?_
        refine va_get (D := D) (ci := 5) (v := .int (nI wn)) (C := RX7) (T := TX7) (N := 16) hx hb hts hinX7 hown hK.1 hP 0 rfl rfl 7 (by decide) hf97 (fun _ h9 => h9) rfl dX7_count_23 ?_
        refine lv_icmp_ge (tgt := 59) hx hb dX7_count_26 (by decide) (fun c26 => ?_) (fun c26 => ?_)
        · skip
          refine lv_iload hx hb dX7_count_59 (lv_at hl 5 rfl) ?_
          subst hQ
          exact W.iret (v := x5) hx hb hr (fun u9 ht hW => ⟨_, rfl, hF, ht⟩) (fun q hq => by cases hq) dX7_count_61
        · exact False.elim (c26 (nI_le (a := wn) (b := k20) (by omega) (by omega)))
      | succ r20 ih20 =>
        intro k20 x5 ls hi20_0 hi20_1 hl hF
        rw [F_X7_count_20] at hF
        refine lv_iload hx hb dX7_count_20 (lv_at hl 6 rfl) ?_
        refine lv_aload_n hx hb dX7_count_22 rfl (lv_at hl 0 rfl) ?_
        refine va_get (D := D) (ci := 5) (v := .int (nI wn)) (C := RX7) (T := TX7) (N := 16) hx hb hts hinX7 hown hK.1 hP 0 rfl rfl 7 (by decide) hf97 (fun _ h9 => h9) rfl dX7_count_23 ?_
        refine lv_icmp_ge (tgt := 59) hx hb dX7_count_26 (by decide) (fun c26 => ?_) (fun c26 => ?_)
        · exact False.elim (nI_ge (a := k20) (b := wn) (by omega) (by omega) c26)
        · skip
          refine lv_iload hx hb dX7_count_29 (lv_at hl 5 rfl) ?_
          refine lv_aload_n hx hb dX7_count_31 rfl (lv_at hl 0 rfl) ?_
          refine lv_iload hx hb dX7_count_32 (lv_at hl 6 rfl) ?_
          refine lv_iload_n hx hb dX7_count_34 rfl (lv_at hl 1 rfl) ?_
          refine lv_iload_n hx hb dX7_count_35 rfl (lv_at hl 2 rfl) ?_
          refine lv_iload_n hx hb dX7_count_36 rfl (lv_at hl 3 rfl) ?_
          refine lv_iload hx hb dX7_count_37 (lv_at hl 4 rfl) ?_
          refine cs_i (va_runV (As := [.int (nI k20), .int w, .int g, .int k, .int sc]) (rest := [.int x5]) ⟨hx, hb, hml, hown, hts⟩ (c_X7_isFound l D cI h a0 a1 a3 a5 a6 a8 a12 sn tu fn we rn per rea wn rw bs re ot cp ab be hh k20 w g k sc (by first | assumption | omega) (by first | assumption | omega)) (cwV 5 hts gX7_count_X7_isFound rfl rfl rfl (by decide +kernel) ⟨(Nat.le_of_ble_eq_true rfl), (Nat.le_of_ble_eq_true rfl)⟩) (ro_preV hP hK rfl (q0 := 0) rfl) rfl rfl hl.1 rfl (lv_room (Nat.le_of_ble_eq_true rfl)) dX7_count_39 ⟨Nat.zero_le _, Nat.zero_le _⟩) ?_
          refine lv_if_eq (tgt := 49) hx hb dX7_count_42 (by decide) (fun c42 => ?_) (fun c42 => ?_)
          · rw [if_pos c42] at hF
            refine lv_iconst (v := 0) hx hb dX7_count_49 (by decide) ?_
            refine lv_iadd hx hb dX7_count_50 ?_
            refine lv_istore (lv' := [(5, .int (x5 + 0)), (0, .ref h), (1, .int w), (2, .int g), (3, .int k), (4, .int sc), (6, .int (nI k20))]) hx hb dX7_count_51 hl (by decide) rfl (fun ls hl => ?_)
            refine lv_iinc (v := nI (k20 + 1)) (lv' := [(6, .int (nI (k20 + 1))), (5, .int (x5 + 0)), (0, .ref h), (1, .int w), (2, .int g), (3, .int k), (4, .int sc)]) hx hb dX7_count_53 hl (k := 6) rfl (nI_1 _) (by decide) rfl (fun ls hl => ?_)
            refine lv_goto (tgt := 20) hx hb dX7_count_56 (by decide) ?_
            exact ih20 (k20 + 1) (x5 + 0) ls (by omega) (by omega)  (lv_sub hl [2, 3, 4, 5, 6, 1, 0] rfl) hF
          · rw [if_neg c42] at hF
            refine lv_iconst (v := 1) hx hb dX7_count_45 (by decide) ?_
            refine lv_goto (tgt := 50) hx hb dX7_count_46 (by decide) ?_
            refine lv_iadd hx hb dX7_count_50 ?_
            refine lv_istore (lv' := [(5, .int (x5 + 1)), (0, .ref h), (1, .int w), (2, .int g), (3, .int k), (4, .int sc), (6, .int (nI k20))]) hx hb dX7_count_51 hl (by decide) rfl (fun ls hl => ?_)
            refine lv_iinc (v := nI (k20 + 1)) (lv' := [(6, .int (nI (k20 + 1))), (5, .int (x5 + 1)), (0, .ref h), (1, .int w), (2, .int g), (3, .int k), (4, .int sc)]) hx hb dX7_count_53 hl (k := 6) rfl (nI_1 _) (by decide) rfl (fun ls hl => ?_)
            refine lv_goto (tgt := 20) hx hb dX7_count_56 (by decide) ?_
            exact ih20 (k20 + 1) (x5 + 1) ls (by omega) (by omega)  (lv_sub hl [2, 3, 4, 5, 6, 1, 0] rfl) hF
    exact lp20 (wn - 0) 0 0 ls rfl (by omega)  (lv_sub hl [2, 3, 4, 5, 6, 1, 0] rfl) hF
  · rw [if_pos c8] at hF
    refine lv_bipush (v := (-102)) hx hb dX7_count_11 (by decide) ?_
    subst hQ
    exact W.iret (v := (-102)) hx hb hr (fun u9 ht hW => ⟨_, rfl, hF, ht⟩) (fun q hq => by cases hq) dX7_count_13
def fX7_told (fn : Nat) (rn : Nat) (wn : Nat) (bs : Nat) (w : Int32) : Int32 := (if w = 0 then nI fn else (if w = 1 then nI rn else (if w = 2 then nI wn else (if w = 3 then nI bs else (-102)))))
abbrev rmX7_told : Room := { frames := 0, cells := 0, slots := 0, locals := 0 }
set_option maxHeartbeats 4000000 in
set_option maxRecDepth 100000 in
theorem c_X7_told (l : Launch) (D : va_G) (cI : ClassId) (h : Nat) (a0 : Nat) (a1 : Nat) (a3 : Nat) (a5 : Nat) (a6 : Nat) (a8 : Nat) (a12 : Nat) (sn : Nat → Nat) (tu : Nat → Int32) (fn : Nat) (we : Nat → Int32) (rn : Nat) (per : Nat → Nat) (rea : Nat → Int32) (wn : Nat) (rw : Nat → Int32) (bs : Nat) (re : Int32) (ot : Int32) (cp : Nat → Int32) (ab : Int64) (be : Int64) (hh : Int64) (w : Int32)  : Met l yX7_told wsX7_told rmX7_told (va_Pc [.ref h, .int w] (roP D [(cI, .int)] [(h, .inr (5, [.ref a0, .ref a1, .int (nI fn), .ref a3, .int (nI rn), .ref a5, .ref a6, .int (nI wn), .ref a8, .int (nI bs), .int re, .int ot, .ref a12, .long ab, .long be, .long hh])), (a0, .inl (cI, 6, .inl (fun i => nI (sn i)))), (a1, .inl (cI, 96, .inl tu)), (a3, .inl (cI, 24, .inl we)), (a5, .inl (cI, 4, .inl (fun i => nI (per i)))), (a6, .inl (cI, 4, .inl rea)), (a8, .inl (cI, 64, .inl rw)), (a12, .inl (cI, 16, .inl cp))])) (vp_Si (fun r9 => r9 = fX7_told fn rn wn bs w)) 0 0 (fun _ => False) := by
  generalize hF : fX7_told fn rn wn bs w = T
  refine Met.ofW (cc := cX7_told) (maxL := 2) (ret := (some .int)) (by decide) rfl ?_
  intro p e s m args below meth c s₁ B hml hv
  obtain ⟨rfl, hP, hK⟩ := hv
  have hx := B.exec
  have hb := B.bytes
  have hr := B.returns
  have hts := atoms_spec (ws := wsX7_told) B.pre
  have hown : s.vm.findClass RX7 = some m.cls := findClass_of_methodNamed B.named
  have hlocks := B.notSynchronized
  have hinX7 : ∀ w ∈ u_ws RX7 TX7 16, w ∈ wsX7_told := by decide +kernel
  have hf67 := hts (.fieldLink RX7 67 "PulseSignsModel" "bests" "I") (by decide +kernel)
  have hf97 := hts (.fieldLink RX7 97 "PulseSignsModel" "rowSize" "I") (by decide +kernel)
  have hf23 := hts (.fieldLink RX7 23 "PulseSignsModel" "restMany" "I") (by decide +kernel)
  have hf16 := hts (.fieldLink RX7 16 "PulseSignsModel" "filterSize" "I") (by decide +kernel)
  have hl := lv_entry ([.ref h, .int w]) (n := 2) (Nat.le_of_ble_eq_true rfl)
  rw [lg_entry_eq]
  generalize (lg_sl ([.ref h, .int w]) ++ List.replicate (2 - (lg_sl ([.ref h, .int w])).length) Slot.unset).toArray = ls at hl ⊢
  refine w_Q (fun Q hQ => ?_)
  have hl : lv_has ls 2 [(0, .ref h), (1, .int w)] := hl
  rw [fX7_told] at hF
  refine lv_iload_n hx hb dX7_told_0 rfl (lv_at hl 1 rfl) ?_
  refine lv_if_ne (tgt := 11) hx hb dX7_told_1 (by decide) (fun c1 => ?_) (fun c1 => ?_)
  · rw [if_neg c1] at hF
    refine lv_iload_n hx hb dX7_told_11 rfl (lv_at hl 1 rfl) ?_
    refine lv_iconst (v := 1) hx hb dX7_told_12 (by decide) ?_
    refine lv_icmp_ne (tgt := 23) hx hb dX7_told_13 (by decide) (fun c13 => ?_) (fun c13 => ?_)
    · rw [if_neg c13] at hF
      refine lv_iload_n hx hb dX7_told_23 rfl (lv_at hl 1 rfl) ?_
      refine lv_iconst (v := 2) hx hb dX7_told_24 (by decide) ?_
      refine lv_icmp_ne (tgt := 35) hx hb dX7_told_25 (by decide) (fun c25 => ?_) (fun c25 => ?_)
      · rw [if_neg c25] at hF
        refine lv_iload_n hx hb dX7_told_35 rfl (lv_at hl 1 rfl) ?_
        refine lv_iconst (v := 3) hx hb dX7_told_36 (by decide) ?_
        refine lv_icmp_ne (tgt := 47) hx hb dX7_told_37 (by decide) (fun c37 => ?_) (fun c37 => ?_)
        · rw [if_neg c37] at hF
          refine lv_bipush (v := (-102)) hx hb dX7_told_47 (by decide) ?_
          subst hQ
          exact W.iret (v := (-102)) hx hb hr (fun u9 ht hW => ⟨_, rfl, hF, ht⟩) (fun q hq => by cases hq) dX7_told_49
        · rw [if_pos c37] at hF
          refine lv_aload_n hx hb dX7_told_40 rfl (lv_at hl 0 rfl) ?_
          refine va_get (D := D) (ci := 5) (v := .int (nI bs)) (C := RX7) (T := TX7) (N := 16) hx hb hts hinX7 hown hK.1 hP 0 rfl rfl 9 (by decide) hf67 (fun _ h9 => h9) rfl dX7_told_41 ?_
          refine lv_goto (tgt := 49) hx hb dX7_told_44 (by decide) ?_
          subst hQ
          exact W.iret (v := nI bs) hx hb hr (fun u9 ht hW => ⟨_, rfl, hF, ht⟩) (fun q hq => by cases hq) dX7_told_49
      · rw [if_pos c25] at hF
        refine lv_aload_n hx hb dX7_told_28 rfl (lv_at hl 0 rfl) ?_
        refine va_get (D := D) (ci := 5) (v := .int (nI wn)) (C := RX7) (T := TX7) (N := 16) hx hb hts hinX7 hown hK.1 hP 0 rfl rfl 7 (by decide) hf97 (fun _ h9 => h9) rfl dX7_told_29 ?_
        refine lv_goto (tgt := 49) hx hb dX7_told_32 (by decide) ?_
        subst hQ
        exact W.iret (v := nI wn) hx hb hr (fun u9 ht hW => ⟨_, rfl, hF, ht⟩) (fun q hq => by cases hq) dX7_told_49
    · rw [if_pos c13] at hF
      refine lv_aload_n hx hb dX7_told_16 rfl (lv_at hl 0 rfl) ?_
      refine va_get (D := D) (ci := 5) (v := .int (nI rn)) (C := RX7) (T := TX7) (N := 16) hx hb hts hinX7 hown hK.1 hP 0 rfl rfl 4 (by decide) hf23 (fun _ h9 => h9) rfl dX7_told_17 ?_
      refine lv_goto (tgt := 49) hx hb dX7_told_20 (by decide) ?_
      subst hQ
      exact W.iret (v := nI rn) hx hb hr (fun u9 ht hW => ⟨_, rfl, hF, ht⟩) (fun q hq => by cases hq) dX7_told_49
  · rw [if_pos c1] at hF
    refine lv_aload_n hx hb dX7_told_4 rfl (lv_at hl 0 rfl) ?_
    refine va_get (D := D) (ci := 5) (v := .int (nI fn)) (C := RX7) (T := TX7) (N := 16) hx hb hts hinX7 hown hK.1 hP 0 rfl rfl 2 (by decide) hf16 (fun _ h9 => h9) rfl dX7_told_5 ?_
    refine lv_goto (tgt := 49) hx hb dX7_told_8 (by decide) ?_
    subst hQ
    exact W.iret (v := nI fn) hx hb hr (fun u9 ht hW => ⟨_, rfl, hF, ht⟩) (fun q hq => by cases hq) dX7_told_49
def fX7_mix (hh : Int64) (v : Int64) : Int64 := (31 * hh) + v
abbrev rmX7_mix : Room := { frames := 0, cells := 0, slots := 0, locals := 0 }
set_option maxHeartbeats 4000000 in
set_option maxRecDepth 100000 in
theorem c_X7_mix (l : Launch) (D : va_G) (cI : ClassId) (sz : Nat) (h : Nat) (a0 : Nat) (a1 : Nat) (a3 : Nat) (a5 : Nat) (a6 : Nat) (a8 : Nat) (a12 : Nat) (sn : Nat → Nat) (tu : Nat → Int32) (fn : Nat) (we : Nat → Int32) (rn : Nat) (per : Nat → Nat) (rea : Nat → Int32) (wn : Nat) (rw : Nat → Int32) (bs : Nat) (re : Int32) (ot : Int32) (cp : Nat → Int32) (ab : Int64) (be : Int64) (hh : Int64) (v : Int64)  : Met l yX7_mix wsX7_mix rmX7_mix (va_Pc [.ref h, .long v] (wrP D [(cI, .int)] [(h, .inr (5, [.ref a0, .ref a1, .int (nI fn), .ref a3, .int (nI rn), .ref a5, .ref a6, .int (nI wn), .ref a8, .int (nI bs), .int re, .int ot, .ref a12, .long ab, .long be, .long hh])), (a0, .inl (cI, 6, .inl (fun i => nI (sn i)))), (a1, .inl (cI, 96, .inl tu)), (a3, .inl (cI, 24, .inl we)), (a5, .inl (cI, 4, .inl (fun i => nI (per i)))), (a6, .inl (cI, 4, .inl rea)), (a8, .inl (cI, 64, .inl rw)), (a12, .inl (cI, 16, .inl cp))] sz)) (va_Qv (fun (_ : Unit) => True) (fun _ u9 => va_P D vwCl [(h, .inr (5, [.ref a0, .ref a1, .int (nI fn), .ref a3, .int (nI rn), .ref a5, .ref a6, .int (nI wn), .ref a8, .int (nI bs), .int re, .int ot, .ref a12, .long ab, .long be, .long (fX7_mix hh v)])), (a0, .inl (cI, 6, .inl (fun i => nI (sn i)))), (a1, .inl (cI, 96, .inl tu)), (a3, .inl (cI, 24, .inl we)), (a5, .inl (cI, 4, .inl (fun i => nI (per i)))), (a6, .inl (cI, 4, .inl rea)), (a8, .inl (cI, 64, .inl rw)), (a12, .inl (cI, 16, .inl cp))] u9.heap) (va_A [(h, .inr (5, [.ref a0, .ref a1, .int (nI fn), .ref a3, .int (nI rn), .ref a5, .ref a6, .int (nI wn), .ref a8, .int (nI bs), .int re, .int ot, .ref a12, .long ab, .long be, .long hh])), (a0, .inl (cI, 6, .inl (fun i => nI (sn i)))), (a1, .inl (cI, 96, .inl tu)), (a3, .inl (cI, 24, .inl we)), (a5, .inl (cI, 4, .inl (fun i => nI (per i)))), (a6, .inl (cI, 4, .inl rea)), (a8, .inl (cI, 64, .inl rw)), (a12, .inl (cI, 16, .inl cp))] sz)) 0 0 (va_A [(h, .inr (5, [.ref a0, .ref a1, .int (nI fn), .ref a3, .int (nI rn), .ref a5, .ref a6, .int (nI wn), .ref a8, .int (nI bs), .int re, .int ot, .ref a12, .long ab, .long be, .long hh])), (a0, .inl (cI, 6, .inl (fun i => nI (sn i)))), (a1, .inl (cI, 96, .inl tu)), (a3, .inl (cI, 24, .inl we)), (a5, .inl (cI, 4, .inl (fun i => nI (per i)))), (a6, .inl (cI, 4, .inl rea)), (a8, .inl (cI, 64, .inl rw)), (a12, .inl (cI, 16, .inl cp))] sz) := by
  generalize hF : fX7_mix hh v = T
  refine Met.ofW (cc := cX7_mix) (maxL := 3) (ret := none) (by decide) rfl ?_
  intro p e s m args below meth c s₁ B hml hv
  obtain ⟨rfl, hsz, hP, hK, hD0⟩ := hv
  have hx := B.exec
  have hb := B.bytes
  have hr := B.returns
  have hts := atoms_spec (ws := wsX7_mix) B.pre
  have hown : s.vm.findClass RX7 = some m.cls := findClass_of_methodNamed B.named
  have hlocks := B.notSynchronized
  have hinX7 : ∀ w ∈ u_ws RX7 TX7 16, w ∈ wsX7_mix := by decide +kernel
  have hcst127 := hts (.constantLong RX7 127 31) (by decide +kernel)
  have hf129 := hts (.fieldLink RX7 129 "PulseSignsModel" "h" "J") (by decide +kernel)
  subst hsz
  have hD := hD0.self (sz := s.heap.size)
  generalize hAe : va_A [(h, .inr (5, [.ref a0, .ref a1, .int (nI fn), .ref a3, .int (nI rn), .ref a5, .ref a6, .int (nI wn), .ref a8, .int (nI bs), .int re, .int ot, .ref a12, .long ab, .long be, .long hh])), (a0, .inl (cI, 6, .inl (fun i => nI (sn i)))), (a1, .inl (cI, 96, .inl tu)), (a3, .inl (cI, 24, .inl we)), (a5, .inl (cI, 4, .inl (fun i => nI (per i)))), (a6, .inl (cI, 4, .inl rea)), (a8, .inl (cI, 64, .inl rw)), (a12, .inl (cI, 16, .inl cp))] s.heap.size = A at hD ⊢
  have hA : ∀ q : Nat, s.heap.size ≤ q → A q := fun q h => by rw [← hAe]; exact Or.inr h
  have hS : va_S A s.heap s.heap [] := va_S.rf
  have hP : va_P D vwCl [(h, .inr (5, [.ref a0, .ref a1, .int (nI fn), .ref a3, .int (nI rn), .ref a5, .ref a6, .int (nI wn), .ref a8, .int (nI bs), .int re, .int ot, .ref a12, .long ab, .long be, .long hh])), (a0, .inl (cI, 6, .inl (fun i => nI (sn i)))), (a1, .inl (cI, 96, .inl tu)), (a3, .inl (cI, 24, .inl we)), (a5, .inl (cI, 4, .inl (fun i => nI (per i)))), (a6, .inl (cI, 4, .inl rea)), (a8, .inl (cI, 64, .inl rw)), (a12, .inl (cI, 16, .inl cp))] s.heap := hP
  have hl := lv_entry ([.ref h, .long v]) (n := 3) (Nat.le_of_ble_eq_true rfl)
  rw [lg_entry_eq]
  generalize (lg_sl ([.ref h, .long v]) ++ List.replicate (3 - (lg_sl ([.ref h, .long v])).length) Slot.unset).toArray = ls at hl ⊢
  refine w_Q (fun Q hQ => ?_)
  have hl : lv_has ls 3 [(0, .ref h), (1, .long v)] := hl
  rw [fX7_mix] at hF
  refine lv_aload_n hx hb dX7_mix_0 rfl (lv_at hl 0 rfl) ?_
  refine lv_ldc2 (v := 31) hx hb hown hcst127 dX7_mix_1 ?_
  refine lv_aload_n hx hb dX7_mix_4 rfl (lv_at hl 0 rfl) ?_
  refine va_get (D := D) (ci := 5) (v := .long hh) (C := RX7) (T := TX7) (N := 16) hx hb hts hinX7 hown hK.1 hP 0 rfl rfl 15 (by decide) hf129 (fun _ h9 => h9) rfl dX7_mix_5 ?_
  refine lv_lmul hx hb dX7_mix_8 ?_
  refine lv_lload_n hx hb dX7_mix_9 rfl (lv_at hl 1 rfl) ?_
  refine lv_ladd hx hb dX7_mix_10 ?_
  refine va_put (D := D) (ci := 5) (v := .long ((31 * hh) + v)) (ty := .long) (C := RX7) (T := TX7) (N := 16) hx hb hts hinX7 tyX7 tyX7_ok nmX7 hown hK.1 hP hD hS 0 rfl rfl 15 (by decide) hf129 (fun _ h9 => h9) rfl (by decide +kernel) rfl rfl (Nat.le_of_ble_eq_true rfl) dX7_mix_11 (fun H locs hP hD hS => ?_)
  have hP : va_P D vwCl [(h, .inr (5, [.ref a0, .ref a1, .int (nI fn), .ref a3, .int (nI rn), .ref a5, .ref a6, .int (nI wn), .ref a8, .int (nI bs), .int re, .int ot, .ref a12, .long ab, .long be, .long ((31 * hh) + v)])), (a0, .inl (cI, 6, .inl (fun i => nI (sn i)))), (a1, .inl (cI, 96, .inl tu)), (a3, .inl (cI, 24, .inl we)), (a5, .inl (cI, 4, .inl (fun i => nI (per i)))), (a6, .inl (cI, 4, .inl rea)), (a8, .inl (cI, 64, .inl rw)), (a12, .inl (cI, 16, .inl cp))] H := hP
  have hD : va_D A [(h, .inr (5, [.ref a0, .ref a1, .int (nI fn), .ref a3, .int (nI rn), .ref a5, .ref a6, .int (nI wn), .ref a8, .int (nI bs), .int re, .int ot, .ref a12, .long ab, .long be, .long ((31 * hh) + v)])), (a0, .inl (cI, 6, .inl (fun i => nI (sn i)))), (a1, .inl (cI, 96, .inl tu)), (a3, .inl (cI, 24, .inl we)), (a5, .inl (cI, 4, .inl (fun i => nI (per i)))), (a6, .inl (cI, 4, .inl rea)), (a8, .inl (cI, 64, .inl rw)), (a12, .inl (cI, 16, .inl cp))] := hD
  subst hF
  subst hQ
  exact W.vret hx hb hr (fun u9 ht hW => ⟨⟨(), rfl, trivial, by rw [← ht] at hP; exact hP⟩, hS.F ht⟩) hS.2.2 dX7_mix_14
