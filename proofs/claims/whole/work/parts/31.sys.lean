def fX6_size (tr : Nat → Nat → Int32) (ln : Nat → Nat) (xc : Int32) (xn : Int32) : Int32 × (Nat → Nat → Int32) × (Nat → Nat) := (if (fX6_isSign xc) = 0 then ((-101), tr, ln) else (if (fX6_within xn 1 16) = 0 then ((-102), tr, ln) else (nI (xn.toNatClampNeg), upR tr (xc.toNatClampNeg) ((fX5_reset (tr (xc.toNatClampNeg)) (xn.toNatClampNeg)).2), updN ln (xc.toNatClampNeg) ((fX5_reset (tr (xc.toNatClampNeg)) (xn.toNatClampNeg)).1))))
abbrev rmX6_size : Room := { frames := 2, cells := 0, slots := 0, locals := 42 }
set_option maxHeartbeats 4000000 in
set_option maxRecDepth 100000 in
theorem c_X6_size (l : Launch) (D : va_G) (cI : ClassId) (cS : ClassId) (sz : Nat) (h : Nat) (sa : Nat) (sg : Nat → Nat) (tg : Nat → Nat) (tr : Nat → Nat → Int32) (ln : Nat → Nat) (fo : Nat) (ft : Nat) (fl : Nat → Int32) (fn : Nat) (ro : Nat) (tp : Nat) (tq : Nat) (per : Nat → Int32) (rea : Nat → Int32) (rn : Nat) (wo : Nat) (tn : Nat) (td : Nat) (rw : Nat → Int32) (wn : Nat) (od : Nat → Int32) (sr : Nat) (xc : Int32) (xn : Int32) (hln : ∀ c, c < 6 → 1 ≤ ln c ∧ ln c ≤ 16) : Met l yX6_size wsX6_size rmX6_size (va_Pc [.ref h, .int xc, .int xn] (wrP D [(cI, .int), (cS, .object RX5)] (PSW cI cS h sa sg tg tr ln fo ft fl fn ro tp tq per rea rn wo tn td rw wn od sr) sz)) (va_Qi (fun r9 (_ : Unit) => r9 = (fX6_size tr ln xc xn).1) (fun _ u9 => va_P D vwCl (PSW cI cS h sa sg tg ((fX6_size tr ln xc xn).2.1) ((fX6_size tr ln xc xn).2.2) fo ft fl fn ro tp tq per rea rn wo tn td rw wn od sr) u9.heap) (va_A (PSW cI cS h sa sg tg tr ln fo ft fl fn ro tp tq per rea rn wo tn td rw wn od sr) sz)) 0 0 (va_A (PSW cI cS h sa sg tg tr ln fo ft fl fn ro tp tq per rea rn wo tn td rw wn od sr) sz) := by
  generalize hF : fX6_size tr ln xc xn = T
  refine Met.ofW (cc := cX6_size) (maxL := 3) (ret := (some .int)) (by decide) rfl ?_
  intro p e s m args below meth c s₁ B hml hv
  obtain ⟨rfl, hsz, hP, hK, hD0⟩ := hv
  have hx := B.exec
  have hb := B.bytes
  have hr := B.returns
  have hts := atoms_spec (ws := wsX6_size) B.pre
  have hown : s.vm.findClass RX6 = some m.cls := findClass_of_methodNamed B.named
  have hlocks := B.notSynchronized
  have hinX6 : ∀ w ∈ u_ws RX6 TX6 5, w ∈ wsX6_size := by decide +kernel
  have hf11 := hts (.fieldLink RX6 11 "PulseSigns" "signs" "[LPulseSigns$Sign;") (by decide +kernel)
  subst hsz
  have hD := hD0.self (sz := s.heap.size)
  generalize hAe : va_A (PSW cI cS h sa sg tg tr ln fo ft fl fn ro tp tq per rea rn wo tn td rw wn od sr) s.heap.size = A at hD ⊢
  have hA : ∀ q : Nat, s.heap.size ≤ q → A q := fun q h => by rw [← hAe]; exact Or.inr h
  have hS : va_S A s.heap s.heap [] := va_S.rf
  have hP : va_P D vwCl (PSW cI cS h sa sg tg tr ln fo ft fl fn ro tp tq per rea rn wo tn td rw wn od sr) s.heap := hP
  have hKi := hK.sub [0] (tys' := [(cI, .int)]) rfl
  have hl := lv_entry ([.ref h, .int xc, .int xn]) (n := 3) (Nat.le_of_ble_eq_true rfl)
  rw [lg_entry_eq]
  generalize (lg_sl ([.ref h, .int xc, .int xn]) ++ List.replicate (3 - (lg_sl ([.ref h, .int xc, .int xn])).length) Slot.unset).toArray = ls at hl ⊢
  refine w_Q (fun Q hQ => ?_)
  have hl : lv_has ls 3 [(0, .ref h), (1, .int xc), (2, .int xn)] := hl
  rw [fX6_size] at hF
  refine lv_iload_n hx hb dX6_size_0 rfl (lv_at hl 1 rfl) ?_
  have hPc : va_P D vwCl [] s.heap := (pnil _ _ _)
  refine cs_i (va_runS (As := [.int xc]) (rest := []) ⟨hx, hb, hml, hown, hts⟩ (c_X6_isSign l D cI xc ) (va_cwS 1 hts gX6_size_X6_isSign rfl rfl rfl (by decide +kernel) ⟨(Nat.le_of_ble_eq_true rfl), (Nat.le_of_ble_eq_true rfl)⟩) (ro_pre hPc hKi) rfl rfl hl.1 rfl (lv_room (Nat.le_of_ble_eq_true rfl)) dX6_size_1 ⟨Nat.zero_le _, Nat.zero_le _⟩) ?_
  refine lv_if_ne (tgt := 10) hx hb dX6_size_4 (by decide) (fun c4 => ?_) (fun c4 => ?_)
  · rw [if_neg c4] at hF
    obtain ⟨cn, hcn, rfl⟩ := sg_nat c4
    have h16cn := hln cn (by omega)
    have e_cn : (nI cn).toNatClampNeg = cn := nI_clamp (by omega)
    try simp only [e_cn] at hF
    refine lv_iload_n hx hb dX6_size_10 rfl (lv_at hl 2 rfl) ?_
    refine lv_iconst (v := 1) hx hb dX6_size_11 (by decide) ?_
    refine lv_bipush (v := 16) hx hb dX6_size_12 (by decide) ?_
    have hPc : va_P D vwCl [] s.heap := (pnil _ _ _)
    refine cs_i (va_runS (As := [.int xn, .int 1, .int 16]) (rest := []) ⟨hx, hb, hml, hown, hts⟩ (c_X6_within l D cI xn 1 16 ) (va_cwS 3 hts gX6_size_X6_within rfl rfl rfl (by decide +kernel) ⟨(Nat.le_of_ble_eq_true rfl), (Nat.le_of_ble_eq_true rfl)⟩) (ro_pre hPc hKi) rfl rfl hl.1 rfl (lv_room (Nat.le_of_ble_eq_true rfl)) dX6_size_14 ⟨Nat.zero_le _, Nat.zero_le _⟩) ?_
    refine lv_if_ne (tgt := 23) hx hb dX6_size_17 (by decide) (fun c17 => ?_) (fun c17 => ?_)
    · rw [if_neg c17] at hF
      obtain ⟨nn, hnn1, hnn, rfl⟩ := wt_nat (a := 1) (b := 16) c17 (by omega)
      have e_nn : (nI nn).toNatClampNeg = nn := nI_clamp (by omega)
      try simp only [e_nn] at hF
      refine lv_aload_n hx hb dX6_size_23 rfl (lv_at hl 0 rfl) ?_
      refine va_get (D := D) (ci := 4) (v := .ref sa) (C := RX6) (T := TX6) (N := 5) hx hb hts hinX6 hown hK.1 hP 0 rfl rfl 0 (by decide) hf11 (fun _ h9 => h9) rfl dX6_size_24 ?_
      refine lv_iload_n hx hb dX6_size_27 rfl (lv_at hl 1 rfl) ?_
      refine w_aref hx hb hK hP 1 1 rfl rfl cn rfl (by omega) (by omega) rfl dX6_size_28 ?_
      refine lv_iload_n hx hb dX6_size_29 rfl (lv_at hl 2 rfl) ?_
      have hPc : va_P D vwCl [(sg cn, .inr (3, [.ref (tg cn), .int (nI (ln cn))])), (tg cn, .inl (cI, 16, .inl (tr cn)))] s.heap := (pcons (i := (2 + 2 * cn)) hP (psw_s (by omega)) (pcons (i := (3 + 2 * cn)) hP (psw_t (by omega)) (pnil _ _ _)))
      have hDc : va_D A [(sg cn, .inr (3, [.ref (tg cn), .int (nI (ln cn))])), (tg cn, .inl (cI, 16, .inl (tr cn)))] := hD.sub [(2 + 2 * cn), (3 + 2 * cn)] (by simp [va_nd] <;> omega) (pmapc (psw_s (by omega)) (pmapc (psw_t (by omega)) pmapn))
      refine cx_v (va_runV (As := [.int (nI nn)]) (rest := []) ⟨hx, hb, hml, hown, hts⟩ (c_X5_reset l D cI s.heap.size (sg cn) (tg cn) (tr cn) (ln cn) nn (by first | assumption | omega)) (cwV 1 hts gX6_size_X5_reset rfl rfl rfl (by decide +kernel) ⟨(Nat.le_of_ble_eq_true rfl), (Nat.le_of_ble_eq_true rfl)⟩) (wr_preV hPc hDc hKi rfl (q0 := 0) rfl) rfl rfl hl.1 rfl (lv_room (Nat.le_of_ble_eq_true rfl)) dX6_size_30 ⟨Nat.zero_le _, Nat.zero_le _⟩) hP hD hS hA [(2 + 2 * cn), (3 + 2 * cn)] (pmapc (psw_s (by omega)) (pmapc (psw_t (by omega)) pmapn)) [sg cn, tg cn] rfl rfl (fun H locs hP hD hS => ?_)
      rw [psw_sign (by omega)] at hP hD
      have hP : va_P D vwCl (PSW cI cS h sa sg tg (upR tr cn ((fX5_reset (tr cn) nn).2)) (updN ln cn ((fX5_reset (tr cn) nn).1)) fo ft fl fn ro tp tq per rea rn wo tn td rw wn od sr) H := hP
      have hD : va_D A (PSW cI cS h sa sg tg (upR tr cn ((fX5_reset (tr cn) nn).2)) (updN ln cn ((fX5_reset (tr cn) nn).1)) fo ft fl fn ro tp tq per rea rn wo tn td rw wn od sr) := hD
      refine lv_iload_n hx hb dX6_size_33 rfl (lv_at hl 2 rfl) ?_
      subst hF
      subst hQ
      exact W.iret (v := nI nn) hx hb hr (fun u9 ht hW => ⟨⟨_, (), rfl, rfl, by rw [← ht] at hP; exact hP⟩, hS.F ht⟩) hS.2.2 dX6_size_34
    · rw [if_pos c17] at hF
      refine lv_bipush (v := (-102)) hx hb dX6_size_20 (by decide) ?_
      subst hF
      subst hQ
      exact W.iret (v := (-102)) hx hb hr (fun u9 ht hW => ⟨⟨_, (), rfl, rfl, by rw [← ht] at hP; exact hP⟩, hS.F ht⟩) hS.2.2 dX6_size_22
  · rw [if_pos c4] at hF
    refine lv_bipush (v := (-101)) hx hb dX6_size_7 (by decide) ?_
    subst hF
    subst hQ
    exact W.iret (v := (-101)) hx hb hr (fun u9 ht hW => ⟨⟨_, (), rfl, rfl, by rw [← ht] at hP; exact hP⟩, hS.F ht⟩) hS.2.2 dX6_size_9
def fX6_turn (tr : Nat → Nat → Int32) (ln : Nat → Nat) (xc : Int32) (xi : Int32) (xq : Int32) : Int32 × (Nat → Nat → Int32) := (if (fX6_isSign xc) = 0 then ((-101), tr) else (if (fX5_has (ln (xc.toNatClampNeg)) xi) = 0 then ((-101), tr) else (if (fX6_within xq 0 3) = 0 then ((-102), tr) else ((tr (xc.toNatClampNeg)) (xi.toNatClampNeg), upR tr (xc.toNatClampNeg) (upd (tr (xc.toNatClampNeg)) (xi.toNatClampNeg) xq)))))
abbrev rmX6_turn : Room := { frames := 2, cells := 0, slots := 0, locals := 43 }
set_option maxHeartbeats 4000000 in
set_option maxRecDepth 100000 in
theorem c_X6_turn (l : Launch) (D : va_G) (cI : ClassId) (cS : ClassId) (sz : Nat) (h : Nat) (sa : Nat) (sg : Nat → Nat) (tg : Nat → Nat) (tr : Nat → Nat → Int32) (ln : Nat → Nat) (fo : Nat) (ft : Nat) (fl : Nat → Int32) (fn : Nat) (ro : Nat) (tp : Nat) (tq : Nat) (per : Nat → Int32) (rea : Nat → Int32) (rn : Nat) (wo : Nat) (tn : Nat) (td : Nat) (rw : Nat → Int32) (wn : Nat) (od : Nat → Int32) (sr : Nat) (xc : Int32) (xi : Int32) (xq : Int32) (hln : ∀ c, c < 6 → 1 ≤ ln c ∧ ln c ≤ 16) : Met l yX6_turn wsX6_turn rmX6_turn (va_Pc [.ref h, .int xc, .int xi, .int xq] (wrP D [(cI, .int), (cS, .object RX5)] (PSW cI cS h sa sg tg tr ln fo ft fl fn ro tp tq per rea rn wo tn td rw wn od sr) sz)) (va_Qi (fun r9 (_ : Unit) => r9 = (fX6_turn tr ln xc xi xq).1) (fun _ u9 => va_P D vwCl (PSW cI cS h sa sg tg ((fX6_turn tr ln xc xi xq).2) ln fo ft fl fn ro tp tq per rea rn wo tn td rw wn od sr) u9.heap) (va_A (PSW cI cS h sa sg tg tr ln fo ft fl fn ro tp tq per rea rn wo tn td rw wn od sr) sz)) 0 0 (va_A (PSW cI cS h sa sg tg tr ln fo ft fl fn ro tp tq per rea rn wo tn td rw wn od sr) sz) := by
  generalize hF : fX6_turn tr ln xc xi xq = T
  refine Met.ofW (cc := cX6_turn) (maxL := 5) (ret := (some .int)) (by decide) rfl ?_
  intro p e s m args below meth c s₁ B hml hv
  obtain ⟨rfl, hsz, hP, hK, hD0⟩ := hv
  have hx := B.exec
  have hb := B.bytes
  have hr := B.returns
  have hts := atoms_spec (ws := wsX6_turn) B.pre
  have hown : s.vm.findClass RX6 = some m.cls := findClass_of_methodNamed B.named
  have hlocks := B.notSynchronized
  have hinX5 : ∀ w ∈ u_ws RX5 TX5 2, w ∈ wsX6_turn := by decide +kernel
  have hinX6 : ∀ w ∈ u_ws RX6 TX6 5, w ∈ wsX6_turn := by decide +kernel
  have hf11 := hts (.fieldLink RX6 11 "PulseSigns" "signs" "[LPulseSigns$Sign;") (by decide +kernel)
  have hf56 := hts (.fieldLink RX6 56 "PulseSigns$Sign" "turns" "[I") (by decide +kernel)
  subst hsz
  have hD := hD0.self (sz := s.heap.size)
  generalize hAe : va_A (PSW cI cS h sa sg tg tr ln fo ft fl fn ro tp tq per rea rn wo tn td rw wn od sr) s.heap.size = A at hD ⊢
  have hA : ∀ q : Nat, s.heap.size ≤ q → A q := fun q h => by rw [← hAe]; exact Or.inr h
  have hS : va_S A s.heap s.heap [] := va_S.rf
  have hP : va_P D vwCl (PSW cI cS h sa sg tg tr ln fo ft fl fn ro tp tq per rea rn wo tn td rw wn od sr) s.heap := hP
  have hKi := hK.sub [0] (tys' := [(cI, .int)]) rfl
  have hl := lv_entry ([.ref h, .int xc, .int xi, .int xq]) (n := 5) (Nat.le_of_ble_eq_true rfl)
  rw [lg_entry_eq]
  generalize (lg_sl ([.ref h, .int xc, .int xi, .int xq]) ++ List.replicate (5 - (lg_sl ([.ref h, .int xc, .int xi, .int xq])).length) Slot.unset).toArray = ls at hl ⊢
  refine w_Q (fun Q hQ => ?_)
  have hl : lv_has ls 5 [(0, .ref h), (1, .int xc), (2, .int xi), (3, .int xq)] := hl
  rw [fX6_turn] at hF
  refine lv_iload_n hx hb dX6_turn_0 rfl (lv_at hl 1 rfl) ?_
  have hPc : va_P D vwCl [] s.heap := (pnil _ _ _)
  refine cs_i (va_runS (As := [.int xc]) (rest := []) ⟨hx, hb, hml, hown, hts⟩ (c_X6_isSign l D cI xc ) (va_cwS 1 hts gX6_turn_X6_isSign rfl rfl rfl (by decide +kernel) ⟨(Nat.le_of_ble_eq_true rfl), (Nat.le_of_ble_eq_true rfl)⟩) (ro_pre hPc hKi) rfl rfl hl.1 rfl (lv_room (Nat.le_of_ble_eq_true rfl)) dX6_turn_1 ⟨Nat.zero_le _, Nat.zero_le _⟩) ?_
  refine lv_if_eq (tgt := 20) hx hb dX6_turn_4 (by decide) (fun c4 => ?_) (fun c4 => ?_)
  · rw [if_pos c4] at hF
    refine lv_bipush (v := (-101)) hx hb dX6_turn_20 (by decide) ?_
    subst hF
    subst hQ
    exact W.iret (v := (-101)) hx hb hr (fun u9 ht hW => ⟨⟨_, (), rfl, rfl, by rw [← ht] at hP; exact hP⟩, hS.F ht⟩) hS.2.2 dX6_turn_22
  · rw [if_neg c4] at hF
    obtain ⟨cn, hcn, rfl⟩ := sg_nat c4
    have h16cn := hln cn (by omega)
    have e_cn : (nI cn).toNatClampNeg = cn := nI_clamp (by omega)
    try simp only [e_cn] at hF
    refine lv_aload_n hx hb dX6_turn_7 rfl (lv_at hl 0 rfl) ?_
    refine va_get (D := D) (ci := 4) (v := .ref sa) (C := RX6) (T := TX6) (N := 5) hx hb hts hinX6 hown hK.1 hP 0 rfl rfl 0 (by decide) hf11 (fun _ h9 => h9) rfl dX6_turn_8 ?_
    refine lv_iload_n hx hb dX6_turn_11 rfl (lv_at hl 1 rfl) ?_
    refine w_aref hx hb hK hP 1 1 rfl rfl cn rfl (by omega) (by omega) rfl dX6_turn_12 ?_
    refine lv_iload_n hx hb dX6_turn_13 rfl (lv_at hl 2 rfl) ?_
    have hPc : va_P D vwCl [(sg cn, .inr (3, [.ref (tg cn), .int (nI (ln cn))])), (tg cn, .inl (cI, 16, .inl (tr cn)))] s.heap := (pcons (i := (2 + 2 * cn)) hP (psw_s (by omega)) (pcons (i := (3 + 2 * cn)) hP (psw_t (by omega)) (pnil _ _ _)))
    refine cs_i (va_runV (As := [.int xi]) (rest := []) ⟨hx, hb, hml, hown, hts⟩ (c_X5_has l D cI (sg cn) (tg cn) (tr cn) (ln cn) xi ) (cwV 1 hts gX6_turn_X5_has rfl rfl rfl (by decide +kernel) ⟨(Nat.le_of_ble_eq_true rfl), (Nat.le_of_ble_eq_true rfl)⟩) (ro_preV hPc hKi rfl (q0 := 0) rfl) rfl rfl hl.1 rfl (lv_room (Nat.le_of_ble_eq_true rfl)) dX6_turn_14 ⟨Nat.zero_le _, Nat.zero_le _⟩) ?_
    refine lv_if_ne (tgt := 23) hx hb dX6_turn_17 (by decide) (fun c17 => ?_) (fun c17 => ?_)
    · rw [if_neg c17] at hF
      obtain ⟨ii, hii, rfl⟩ := has_nat c17 (by omega)
      have e_ii : (nI ii).toNatClampNeg = ii := nI_clamp (by omega)
      try simp only [e_ii] at hF
      refine lv_iload_n hx hb dX6_turn_23 rfl (lv_at hl 3 rfl) ?_
      refine lv_iconst (v := 0) hx hb dX6_turn_24 (by decide) ?_
      refine lv_iconst (v := 3) hx hb dX6_turn_25 (by decide) ?_
      have hPc : va_P D vwCl [] s.heap := (pnil _ _ _)
      refine cs_i (va_runS (As := [.int xq, .int 0, .int 3]) (rest := []) ⟨hx, hb, hml, hown, hts⟩ (c_X6_within l D cI xq 0 3 ) (va_cwS 3 hts gX6_turn_X6_within rfl rfl rfl (by decide +kernel) ⟨(Nat.le_of_ble_eq_true rfl), (Nat.le_of_ble_eq_true rfl)⟩) (ro_pre hPc hKi) rfl rfl hl.1 rfl (lv_room (Nat.le_of_ble_eq_true rfl)) dX6_turn_26 ⟨Nat.zero_le _, Nat.zero_le _⟩) ?_
      refine lv_if_ne (tgt := 35) hx hb dX6_turn_29 (by decide) (fun c29 => ?_) (fun c29 => ?_)
      · rw [if_neg c29] at hF
        refine lv_aload_n hx hb dX6_turn_35 rfl (lv_at hl 0 rfl) ?_
        refine va_get (D := D) (ci := 4) (v := .ref sa) (C := RX6) (T := TX6) (N := 5) hx hb hts hinX6 hown hK.1 hP 0 rfl rfl 0 (by decide) hf11 (fun _ h9 => h9) rfl dX6_turn_36 ?_
        refine lv_iload_n hx hb dX6_turn_39 rfl (lv_at hl 1 rfl) ?_
        refine w_aref hx hb hK hP 1 1 rfl rfl cn rfl (by omega) (by omega) rfl dX6_turn_40 ?_
        refine va_get (D := D) (ci := 3) (v := .ref (tg cn)) (C := RX5) (T := TX5) (N := 2) hx hb hts hinX5 hown hK.1 hP (2 + 2 * cn) (psw_s (by omega)) rfl 0 (by decide) hf56 (fun _ h9 => h9) rfl dX6_turn_41 ?_
        refine lv_iload_n hx hb dX6_turn_44 rfl (lv_at hl 2 rfl) ?_
        refine w_ald hx hb hK hP (3 + 2 * cn) 0 (psw_t (by omega)) rfl (ii) rfl (by omega) (by omega) dX6_turn_45 ?_
        refine lv_istore (lv' := [(4, .int ((tr cn) ii)), (0, .ref h), (1, .int (nI cn)), (2, .int (nI ii)), (3, .int xq)]) hx hb dX6_turn_46 hl (by decide) rfl (fun ls hl => ?_)
        refine lv_aload_n hx hb dX6_turn_48 rfl (lv_at hl 1 rfl) ?_
        refine va_get (D := D) (ci := 4) (v := .ref sa) (C := RX6) (T := TX6) (N := 5) hx hb hts hinX6 hown hK.1 hP 0 rfl rfl 0 (by decide) hf11 (fun _ h9 => h9) rfl dX6_turn_49 ?_
        refine lv_iload_n hx hb dX6_turn_52 rfl (lv_at hl 2 rfl) ?_
        refine w_aref hx hb hK hP 1 1 rfl rfl cn rfl (by omega) (by omega) rfl dX6_turn_53 ?_
        refine va_get (D := D) (ci := 3) (v := .ref (tg cn)) (C := RX5) (T := TX5) (N := 2) hx hb hts hinX5 hown hK.1 hP (2 + 2 * cn) (psw_s (by omega)) rfl 0 (by decide) hf56 (fun _ h9 => h9) rfl dX6_turn_54 ?_
        refine lv_iload_n hx hb dX6_turn_57 rfl (lv_at hl 3 rfl) ?_
        refine lv_iload_n hx hb dX6_turn_58 rfl (lv_at hl 4 rfl) ?_
        refine w_ast hx hb hK hP hD hS (3 + 2 * cn) 0 (psw_t (by omega)) rfl (ii) rfl (by omega) (by omega) dX6_turn_59 (fun H locs hP hD hS => ?_)
        rw [psw_st (by omega)] at hP hD
        have hP : va_P D vwCl (PSW cI cS h sa sg tg (upR tr cn (upd (tr cn) ii xq)) ln fo ft fl fn ro tp tq per rea rn wo tn td rw wn od sr) H := hP
        have hD : va_D A (PSW cI cS h sa sg tg (upR tr cn (upd (tr cn) ii xq)) ln fo ft fl fn ro tp tq per rea rn wo tn td rw wn od sr) := hD
        refine lv_iload hx hb dX6_turn_60 (lv_at hl 0 rfl) ?_
        subst hF
        subst hQ
        exact W.iret (v := (tr cn) ii) hx hb hr (fun u9 ht hW => ⟨⟨_, (), rfl, rfl, by rw [← ht] at hP; exact hP⟩, hS.F ht⟩) hS.2.2 dX6_turn_62
      · rw [if_pos c29] at hF
        refine lv_bipush (v := (-102)) hx hb dX6_turn_32 (by decide) ?_
        subst hF
        subst hQ
        exact W.iret (v := (-102)) hx hb hr (fun u9 ht hW => ⟨⟨_, (), rfl, rfl, by rw [← ht] at hP; exact hP⟩, hS.F ht⟩) hS.2.2 dX6_turn_34
    · rw [if_pos c17] at hF
      refine lv_bipush (v := (-101)) hx hb dX6_turn_20 (by decide) ?_
      subst hF
      subst hQ
      exact W.iret (v := (-101)) hx hb hr (fun u9 ht hW => ⟨⟨_, (), rfl, rfl, by rw [← ht] at hP; exact hP⟩, hS.F ht⟩) hS.2.2 dX6_turn_22
def fX6_turned (tr : Nat → Nat → Int32) (ln : Nat → Nat) (xc : Int32) (xi : Int32) : Int32 := (if (fX6_isSign xc) = 0 then (-101) else (if (fX5_has (ln (xc.toNatClampNeg)) xi) = 0 then (-1) else (tr (xc.toNatClampNeg)) (xi.toNatClampNeg)))
abbrev rmX6_turned : Room := { frames := 2, cells := 0, slots := 0, locals := 43 }
set_option maxHeartbeats 4000000 in
set_option maxRecDepth 100000 in
theorem c_X6_turned (l : Launch) (D : va_G) (cI : ClassId) (cS : ClassId) (h : Nat) (sa : Nat) (sg : Nat → Nat) (tg : Nat → Nat) (tr : Nat → Nat → Int32) (ln : Nat → Nat) (fo : Nat) (ft : Nat) (fl : Nat → Int32) (fn : Nat) (ro : Nat) (tp : Nat) (tq : Nat) (per : Nat → Int32) (rea : Nat → Int32) (rn : Nat) (wo : Nat) (tn : Nat) (td : Nat) (rw : Nat → Int32) (wn : Nat) (od : Nat → Int32) (sr : Nat) (xc : Int32) (xi : Int32) (hln : ∀ c, c < 6 → 1 ≤ ln c ∧ ln c ≤ 16) : Met l yX6_turned wsX6_turned rmX6_turned (va_Pc [.ref h, .int xc, .int xi] (roP D [(cI, .int), (cS, .object RX5)] (PSW cI cS h sa sg tg tr ln fo ft fl fn ro tp tq per rea rn wo tn td rw wn od sr))) (vp_Si (fun r9 => r9 = fX6_turned tr ln xc xi)) 0 0 (fun _ => False) := by
  generalize hF : fX6_turned tr ln xc xi = T
  refine Met.ofW (cc := cX6_turned) (maxL := 3) (ret := (some .int)) (by decide) rfl ?_
  intro p e s m args below meth c s₁ B hml hv
  obtain ⟨rfl, hP, hK⟩ := hv
  have hx := B.exec
  have hb := B.bytes
  have hr := B.returns
  have hts := atoms_spec (ws := wsX6_turned) B.pre
  have hown : s.vm.findClass RX6 = some m.cls := findClass_of_methodNamed B.named
  have hlocks := B.notSynchronized
  have hinX5 : ∀ w ∈ u_ws RX5 TX5 2, w ∈ wsX6_turned := by decide +kernel
  have hinX6 : ∀ w ∈ u_ws RX6 TX6 5, w ∈ wsX6_turned := by decide +kernel
  have hf11 := hts (.fieldLink RX6 11 "PulseSigns" "signs" "[LPulseSigns$Sign;") (by decide +kernel)
  have hf56 := hts (.fieldLink RX6 56 "PulseSigns$Sign" "turns" "[I") (by decide +kernel)
  have hKi := hK.sub [0] (tys' := [(cI, .int)]) rfl
  have hl := lv_entry ([.ref h, .int xc, .int xi]) (n := 3) (Nat.le_of_ble_eq_true rfl)
  rw [lg_entry_eq]
  generalize (lg_sl ([.ref h, .int xc, .int xi]) ++ List.replicate (3 - (lg_sl ([.ref h, .int xc, .int xi])).length) Slot.unset).toArray = ls at hl ⊢
  refine w_Q (fun Q hQ => ?_)
  have hl : lv_has ls 3 [(0, .ref h), (1, .int xc), (2, .int xi)] := hl
  rw [fX6_turned] at hF
  refine lv_iload_n hx hb dX6_turned_0 rfl (lv_at hl 1 rfl) ?_
  have hPc : va_P D vwCl [] s.heap := (pnil _ _ _)
  refine cs_i (va_runS (As := [.int xc]) (rest := []) ⟨hx, hb, hml, hown, hts⟩ (c_X6_isSign l D cI xc ) (va_cwS 1 hts gX6_turned_X6_isSign rfl rfl rfl (by decide +kernel) ⟨(Nat.le_of_ble_eq_true rfl), (Nat.le_of_ble_eq_true rfl)⟩) (ro_pre hPc hKi) rfl rfl hl.1 rfl (lv_room (Nat.le_of_ble_eq_true rfl)) dX6_turned_1 ⟨Nat.zero_le _, Nat.zero_le _⟩) ?_
  refine lv_if_ne (tgt := 10) hx hb dX6_turned_4 (by decide) (fun c4 => ?_) (fun c4 => ?_)
  · rw [if_neg c4] at hF
    obtain ⟨cn, hcn, rfl⟩ := sg_nat c4
    have h16cn := hln cn (by omega)
    have e_cn : (nI cn).toNatClampNeg = cn := nI_clamp (by omega)
    try simp only [e_cn] at hF
    refine lv_aload_n hx hb dX6_turned_10 rfl (lv_at hl 0 rfl) ?_
    refine va_get (D := D) (ci := 4) (v := .ref sa) (C := RX6) (T := TX6) (N := 5) hx hb hts hinX6 hown hK.1 hP 0 rfl rfl 0 (by decide) hf11 (fun _ h9 => h9) rfl dX6_turned_11 ?_
    refine lv_iload_n hx hb dX6_turned_14 rfl (lv_at hl 1 rfl) ?_
    refine w_aref hx hb hK hP 1 1 rfl rfl cn rfl (by omega) (by omega) rfl dX6_turned_15 ?_
    refine lv_iload_n hx hb dX6_turned_16 rfl (lv_at hl 2 rfl) ?_
    have hPc : va_P D vwCl [(sg cn, .inr (3, [.ref (tg cn), .int (nI (ln cn))])), (tg cn, .inl (cI, 16, .inl (tr cn)))] s.heap := (pcons (i := (2 + 2 * cn)) hP (psw_s (by omega)) (pcons (i := (3 + 2 * cn)) hP (psw_t (by omega)) (pnil _ _ _)))
    refine cs_i (va_runV (As := [.int xi]) (rest := []) ⟨hx, hb, hml, hown, hts⟩ (c_X5_has l D cI (sg cn) (tg cn) (tr cn) (ln cn) xi ) (cwV 1 hts gX6_turned_X5_has rfl rfl rfl (by decide +kernel) ⟨(Nat.le_of_ble_eq_true rfl), (Nat.le_of_ble_eq_true rfl)⟩) (ro_preV hPc hKi rfl (q0 := 0) rfl) rfl rfl hl.1 rfl (lv_room (Nat.le_of_ble_eq_true rfl)) dX6_turned_17 ⟨Nat.zero_le _, Nat.zero_le _⟩) ?_
    refine lv_if_eq (tgt := 37) hx hb dX6_turned_20 (by decide) (fun c20 => ?_) (fun c20 => ?_)
    · rw [if_pos c20] at hF
      refine lv_iconst (v := (-1)) hx hb dX6_turned_37 (by decide) ?_
      subst hQ
      exact W.iret (v := (-1)) hx hb hr (fun u9 ht hW => ⟨_, rfl, hF, ht⟩) (fun q hq => by cases hq) dX6_turned_38
    · rw [if_neg c20] at hF
      obtain ⟨ii, hii, rfl⟩ := has_nat c20 (by omega)
      have e_ii : (nI ii).toNatClampNeg = ii := nI_clamp (by omega)
      try simp only [e_ii] at hF
      refine lv_aload_n hx hb dX6_turned_23 rfl (lv_at hl 0 rfl) ?_
      refine va_get (D := D) (ci := 4) (v := .ref sa) (C := RX6) (T := TX6) (N := 5) hx hb hts hinX6 hown hK.1 hP 0 rfl rfl 0 (by decide) hf11 (fun _ h9 => h9) rfl dX6_turned_24 ?_
      refine lv_iload_n hx hb dX6_turned_27 rfl (lv_at hl 1 rfl) ?_
      refine w_aref hx hb hK hP 1 1 rfl rfl cn rfl (by omega) (by omega) rfl dX6_turned_28 ?_
      refine va_get (D := D) (ci := 3) (v := .ref (tg cn)) (C := RX5) (T := TX5) (N := 2) hx hb hts hinX5 hown hK.1 hP (2 + 2 * cn) (psw_s (by omega)) rfl 0 (by decide) hf56 (fun _ h9 => h9) rfl dX6_turned_29 ?_
      refine lv_iload_n hx hb dX6_turned_32 rfl (lv_at hl 2 rfl) ?_
      refine w_ald hx hb hK hP (3 + 2 * cn) 0 (psw_t (by omega)) rfl (ii) rfl (by omega) (by omega) dX6_turned_33 ?_
      refine lv_goto (tgt := 38) hx hb dX6_turned_34 (by decide) ?_
      subst hQ
      exact W.iret (v := (tr cn) ii) hx hb hr (fun u9 ht hW => ⟨_, rfl, hF, ht⟩) (fun q hq => by cases hq) dX6_turned_38
  · rw [if_pos c4] at hF
    refine lv_bipush (v := (-101)) hx hb dX6_turned_7 (by decide) ?_
    subst hQ
    exact W.iret (v := (-101)) hx hb hr (fun u9 ht hW => ⟨_, rfl, hF, ht⟩) (fun q hq => by cases hq) dX6_turned_9
def fX6_look (tr : Nat → Nat → Int32) (ln : Nat → Nat) (xa : Int32) (xb : Int32) (xk : Int32) (xd : Int32) (xp : Int32) : Int32 := (if (fX6_isSign xa) = 0 then (-1000) else (if (fX6_isSign xb) = 0 then (-1000) else (if (fX6_within xk (-15) 15) = 0 then (-1001) else (if (fX6_within xd 0 3) = 0 then (-1001) else (if (fX6_isPart xp) = 0 then (-1001) else fX5_lookPart (tr (xa.toNatClampNeg)) (ln (xa.toNatClampNeg)) (tr (xb.toNatClampNeg)) (ln (xb.toNatClampNeg)) xk xd xp)))))
abbrev rmX6_look : Room := { frames := 3, cells := 0, slots := 0, locals := 69 }
set_option maxHeartbeats 4000000 in
set_option maxRecDepth 100000 in
theorem c_X6_look (l : Launch) (D : va_G) (cI : ClassId) (cS : ClassId) (h : Nat) (sa : Nat) (sg : Nat → Nat) (tg : Nat → Nat) (tr : Nat → Nat → Int32) (ln : Nat → Nat) (fo : Nat) (ft : Nat) (fl : Nat → Int32) (fn : Nat) (ro : Nat) (tp : Nat) (tq : Nat) (per : Nat → Int32) (rea : Nat → Int32) (rn : Nat) (wo : Nat) (tn : Nat) (td : Nat) (rw : Nat → Int32) (wn : Nat) (od : Nat → Int32) (sr : Nat) (xa : Int32) (xb : Int32) (xk : Int32) (xd : Int32) (xp : Int32) (hln : ∀ c, c < 6 → 1 ≤ ln c ∧ ln c ≤ 16) : Met l yX6_look wsX6_look rmX6_look (va_Pc [.ref h, .int xa, .int xb, .int xk, .int xd, .int xp] (roP D [(cI, .int), (cS, .object RX5)] (PSW cI cS h sa sg tg tr ln fo ft fl fn ro tp tq per rea rn wo tn td rw wn od sr))) (vp_Si (fun r9 => r9 = fX6_look tr ln xa xb xk xd xp)) 0 0 (fun _ => False) := by
  generalize hF : fX6_look tr ln xa xb xk xd xp = T
  refine Met.ofW (cc := cX6_look) (maxL := 6) (ret := (some .int)) (by decide) rfl ?_
  intro p e s m args below meth c s₁ B hml hv
  obtain ⟨rfl, hP, hK⟩ := hv
  have hx := B.exec
  have hb := B.bytes
  have hr := B.returns
  have hts := atoms_spec (ws := wsX6_look) B.pre
  have hown : s.vm.findClass RX6 = some m.cls := findClass_of_methodNamed B.named
  have hlocks := B.notSynchronized
  have hinX6 : ∀ w ∈ u_ws RX6 TX6 5, w ∈ wsX6_look := by decide +kernel
  have hf11 := hts (.fieldLink RX6 11 "PulseSigns" "signs" "[LPulseSigns$Sign;") (by decide +kernel)
  have hKi := hK.sub [0] (tys' := [(cI, .int)]) rfl
  have hl := lv_entry ([.ref h, .int xa, .int xb, .int xk, .int xd, .int xp]) (n := 6) (Nat.le_of_ble_eq_true rfl)
  rw [lg_entry_eq]
  generalize (lg_sl ([.ref h, .int xa, .int xb, .int xk, .int xd, .int xp]) ++ List.replicate (6 - (lg_sl ([.ref h, .int xa, .int xb, .int xk, .int xd, .int xp])).length) Slot.unset).toArray = ls at hl ⊢
  refine w_Q (fun Q hQ => ?_)
  have hl : lv_has ls 6 [(0, .ref h), (1, .int xa), (2, .int xb), (3, .int xk), (4, .int xd), (5, .int xp)] := hl
  rw [fX6_look] at hF
  refine lv_iload_n hx hb dX6_look_0 rfl (lv_at hl 1 rfl) ?_
  have hPc : va_P D vwCl [] s.heap := (pnil _ _ _)
  refine cs_i (va_runS (As := [.int xa]) (rest := []) ⟨hx, hb, hml, hown, hts⟩ (c_X6_isSign l D cI xa ) (va_cwS 1 hts gX6_look_X6_isSign rfl rfl rfl (by decide +kernel) ⟨(Nat.le_of_ble_eq_true rfl), (Nat.le_of_ble_eq_true rfl)⟩) (ro_pre hPc hKi) rfl rfl hl.1 rfl (lv_room (Nat.le_of_ble_eq_true rfl)) dX6_look_1 ⟨Nat.zero_le _, Nat.zero_le _⟩) ?_
  refine lv_if_eq (tgt := 14) hx hb dX6_look_4 (by decide) (fun c4 => ?_) (fun c4 => ?_)
  · rw [if_pos c4] at hF
    refine lv_sipush (v := (-1000)) hx hb dX6_look_14 (by decide) ?_
    subst hQ
    exact W.iret (v := (-1000)) hx hb hr (fun u9 ht hW => ⟨_, rfl, hF, ht⟩) (fun q hq => by cases hq) dX6_look_17
  · rw [if_neg c4] at hF
    obtain ⟨an, han, rfl⟩ := sg_nat c4
    have h16an := hln an (by omega)
    have e_an : (nI an).toNatClampNeg = an := nI_clamp (by omega)
    try simp only [e_an] at hF
    refine lv_iload_n hx hb dX6_look_7 rfl (lv_at hl 2 rfl) ?_
    have hPc : va_P D vwCl [] s.heap := (pnil _ _ _)
    refine cs_i (va_runS (As := [.int xb]) (rest := []) ⟨hx, hb, hml, hown, hts⟩ (c_X6_isSign l D cI xb ) (va_cwS 1 hts gX6_look_X6_isSign rfl rfl rfl (by decide +kernel) ⟨(Nat.le_of_ble_eq_true rfl), (Nat.le_of_ble_eq_true rfl)⟩) (ro_pre hPc hKi) rfl rfl hl.1 rfl (lv_room (Nat.le_of_ble_eq_true rfl)) dX6_look_8 ⟨Nat.zero_le _, Nat.zero_le _⟩) ?_
    refine lv_if_ne (tgt := 18) hx hb dX6_look_11 (by decide) (fun c11 => ?_) (fun c11 => ?_)
    · rw [if_neg c11] at hF
      obtain ⟨bn, hbn, rfl⟩ := sg_nat c11
      have h16bn := hln bn (by omega)
      have e_bn : (nI bn).toNatClampNeg = bn := nI_clamp (by omega)
      try simp only [e_bn] at hF
      refine lv_iload_n hx hb dX6_look_18 rfl (lv_at hl 3 rfl) ?_
      refine lv_bipush (v := (-15)) hx hb dX6_look_19 (by decide) ?_
      refine lv_bipush (v := 15) hx hb dX6_look_21 (by decide) ?_
      have hPc : va_P D vwCl [] s.heap := (pnil _ _ _)
      refine cs_i (va_runS (As := [.int xk, .int (-15), .int 15]) (rest := []) ⟨hx, hb, hml, hown, hts⟩ (c_X6_within l D cI xk (-15) 15 ) (va_cwS 3 hts gX6_look_X6_within rfl rfl rfl (by decide +kernel) ⟨(Nat.le_of_ble_eq_true rfl), (Nat.le_of_ble_eq_true rfl)⟩) (ro_pre hPc hKi) rfl rfl hl.1 rfl (lv_room (Nat.le_of_ble_eq_true rfl)) dX6_look_23 ⟨Nat.zero_le _, Nat.zero_le _⟩) ?_
      refine lv_if_eq (tgt := 47) hx hb dX6_look_26 (by decide) (fun c26 => ?_) (fun c26 => ?_)
      · rw [if_pos c26] at hF
        refine lv_sipush (v := (-1001)) hx hb dX6_look_47 (by decide) ?_
        subst hQ
        exact W.iret (v := (-1001)) hx hb hr (fun u9 ht hW => ⟨_, rfl, hF, ht⟩) (fun q hq => by cases hq) dX6_look_50
      · rw [if_neg c26] at hF
        refine lv_iload hx hb dX6_look_29 (lv_at hl 4 rfl) ?_
        refine lv_iconst (v := 0) hx hb dX6_look_31 (by decide) ?_
        refine lv_iconst (v := 3) hx hb dX6_look_32 (by decide) ?_
        have hPc : va_P D vwCl [] s.heap := (pnil _ _ _)
        refine cs_i (va_runS (As := [.int xd, .int 0, .int 3]) (rest := []) ⟨hx, hb, hml, hown, hts⟩ (c_X6_within l D cI xd 0 3 ) (va_cwS 3 hts gX6_look_X6_within rfl rfl rfl (by decide +kernel) ⟨(Nat.le_of_ble_eq_true rfl), (Nat.le_of_ble_eq_true rfl)⟩) (ro_pre hPc hKi) rfl rfl hl.1 rfl (lv_room (Nat.le_of_ble_eq_true rfl)) dX6_look_33 ⟨Nat.zero_le _, Nat.zero_le _⟩) ?_
        refine lv_if_eq (tgt := 47) hx hb dX6_look_36 (by decide) (fun c36 => ?_) (fun c36 => ?_)
        · rw [if_pos c36] at hF
          refine lv_sipush (v := (-1001)) hx hb dX6_look_47 (by decide) ?_
          subst hQ
          exact W.iret (v := (-1001)) hx hb hr (fun u9 ht hW => ⟨_, rfl, hF, ht⟩) (fun q hq => by cases hq) dX6_look_50
        · rw [if_neg c36] at hF
          refine lv_iload hx hb dX6_look_39 (lv_at hl 5 rfl) ?_
          have hPc : va_P D vwCl [] s.heap := (pnil _ _ _)
          refine cs_i (va_runS (As := [.int xp]) (rest := []) ⟨hx, hb, hml, hown, hts⟩ (c_X6_isPart l D cI xp ) (va_cwS 1 hts gX6_look_X6_isPart rfl rfl rfl (by decide +kernel) ⟨(Nat.le_of_ble_eq_true rfl), (Nat.le_of_ble_eq_true rfl)⟩) (ro_pre hPc hKi) rfl rfl hl.1 rfl (lv_room (Nat.le_of_ble_eq_true rfl)) dX6_look_41 ⟨Nat.zero_le _, Nat.zero_le _⟩) ?_
          refine lv_if_ne (tgt := 51) hx hb dX6_look_44 (by decide) (fun c44 => ?_) (fun c44 => ?_)
          · rw [if_neg c44] at hF
            refine lv_aload_n hx hb dX6_look_51 rfl (lv_at hl 0 rfl) ?_
            refine va_get (D := D) (ci := 4) (v := .ref sa) (C := RX6) (T := TX6) (N := 5) hx hb hts hinX6 hown hK.1 hP 0 rfl rfl 0 (by decide) hf11 (fun _ h9 => h9) rfl dX6_look_52 ?_
            refine lv_iload_n hx hb dX6_look_55 rfl (lv_at hl 1 rfl) ?_
            refine w_aref hx hb hK hP 1 1 rfl rfl an rfl (by omega) (by omega) rfl dX6_look_56 ?_
            refine lv_aload_n hx hb dX6_look_57 rfl (lv_at hl 0 rfl) ?_
            refine va_get (D := D) (ci := 4) (v := .ref sa) (C := RX6) (T := TX6) (N := 5) hx hb hts hinX6 hown hK.1 hP 0 rfl rfl 0 (by decide) hf11 (fun _ h9 => h9) rfl dX6_look_58 ?_
            refine lv_iload_n hx hb dX6_look_61 rfl (lv_at hl 2 rfl) ?_
            refine w_aref hx hb hK hP 1 1 rfl rfl bn rfl (by omega) (by omega) rfl dX6_look_62 ?_
            refine lv_iload_n hx hb dX6_look_63 rfl (lv_at hl 3 rfl) ?_
            refine lv_iload hx hb dX6_look_64 (lv_at hl 4 rfl) ?_
            refine lv_iload hx hb dX6_look_66 (lv_at hl 5 rfl) ?_
            have hPc : va_P D vwCl [(sg an, .inr (3, [.ref (tg an), .int (nI (ln an))])), (tg an, .inl (cI, 16, .inl (tr an))), (sg bn, .inr (3, [.ref (tg bn), .int (nI (ln bn))])), (tg bn, .inl (cI, 16, .inl (tr bn)))] s.heap := (pcons (i := (2 + 2 * an)) hP (psw_s (by omega)) (pcons (i := (3 + 2 * an)) hP (psw_t (by omega)) (pcons (i := (2 + 2 * bn)) hP (psw_s (by omega)) (pcons (i := (3 + 2 * bn)) hP (psw_t (by omega)) (pnil _ _ _)))))
            refine cs_i (va_runV (As := [.ref (sg bn), .int xk, .int xd, .int xp]) (rest := []) ⟨hx, hb, hml, hown, hts⟩ (c_X5_lookPart l D cI (sg an) (tg an) (tr an) (ln an) (sg bn) (tg bn) (tr bn) (ln bn) xk xd xp (by first | assumption | omega) (by first | assumption | omega)) (cwV 4 hts gX6_look_X5_lookPart rfl rfl rfl (by decide +kernel) ⟨(Nat.le_of_ble_eq_true rfl), (Nat.le_of_ble_eq_true rfl)⟩) (ro_preV hPc hKi rfl (q0 := 0) rfl) rfl rfl hl.1 rfl (lv_room (Nat.le_of_ble_eq_true rfl)) dX6_look_68 ⟨Nat.zero_le _, Nat.zero_le _⟩) ?_
            subst hQ
            exact W.iret (v := fX5_lookPart (tr an) (ln an) (tr bn) (ln bn) xk xd xp) hx hb hr (fun u9 ht hW => ⟨_, rfl, hF, ht⟩) (fun q hq => by cases hq) dX6_look_71
          · rw [if_pos c44] at hF
            refine lv_sipush (v := (-1001)) hx hb dX6_look_47 (by decide) ?_
            subst hQ
            exact W.iret (v := (-1001)) hx hb hr (fun u9 ht hW => ⟨_, rfl, hF, ht⟩) (fun q hq => by cases hq) dX6_look_50
    · rw [if_pos c11] at hF
      refine lv_sipush (v := (-1000)) hx hb dX6_look_14 (by decide) ?_
      subst hQ
      exact W.iret (v := (-1000)) hx hb hr (fun u9 ht hW => ⟨_, rfl, hF, ht⟩) (fun q hq => by cases hq) dX6_look_17
def fX6_peak (tr : Nat → Nat → Int32) (ln : Nat → Nat) (xc : Int32) : Int32 := (if (fX6_isSign xc) = 0 then (-101) else fX5_greatestSide (tr (xc.toNatClampNeg)) (ln (xc.toNatClampNeg)))
abbrev rmX6_peak : Room := { frames := 5, cells := 0, slots := 0, locals := 115 }
set_option maxHeartbeats 4000000 in
set_option maxRecDepth 100000 in
theorem c_X6_peak (l : Launch) (D : va_G) (cI : ClassId) (cS : ClassId) (h : Nat) (sa : Nat) (sg : Nat → Nat) (tg : Nat → Nat) (tr : Nat → Nat → Int32) (ln : Nat → Nat) (fo : Nat) (ft : Nat) (fl : Nat → Int32) (fn : Nat) (ro : Nat) (tp : Nat) (tq : Nat) (per : Nat → Int32) (rea : Nat → Int32) (rn : Nat) (wo : Nat) (tn : Nat) (td : Nat) (rw : Nat → Int32) (wn : Nat) (od : Nat → Int32) (sr : Nat) (xc : Int32) (hln : ∀ c, c < 6 → 1 ≤ ln c ∧ ln c ≤ 16) : Met l yX6_peak wsX6_peak rmX6_peak (va_Pc [.ref h, .int xc] (roP D [(cI, .int), (cS, .object RX5)] (PSW cI cS h sa sg tg tr ln fo ft fl fn ro tp tq per rea rn wo tn td rw wn od sr))) (vp_Si (fun r9 => r9 = fX6_peak tr ln xc)) 0 0 (fun _ => False) := by
  generalize hF : fX6_peak tr ln xc = T
  refine Met.ofW (cc := cX6_peak) (maxL := 2) (ret := (some .int)) (by decide) rfl ?_
  intro p e s m args below meth c s₁ B hml hv
  obtain ⟨rfl, hP, hK⟩ := hv
  have hx := B.exec
  have hb := B.bytes
  have hr := B.returns
  have hts := atoms_spec (ws := wsX6_peak) B.pre
  have hown : s.vm.findClass RX6 = some m.cls := findClass_of_methodNamed B.named
  have hlocks := B.notSynchronized
  have hinX6 : ∀ w ∈ u_ws RX6 TX6 5, w ∈ wsX6_peak := by decide +kernel
  have hf11 := hts (.fieldLink RX6 11 "PulseSigns" "signs" "[LPulseSigns$Sign;") (by decide +kernel)
  have hKi := hK.sub [0] (tys' := [(cI, .int)]) rfl
  have hl := lv_entry ([.ref h, .int xc]) (n := 2) (Nat.le_of_ble_eq_true rfl)
  rw [lg_entry_eq]
  generalize (lg_sl ([.ref h, .int xc]) ++ List.replicate (2 - (lg_sl ([.ref h, .int xc])).length) Slot.unset).toArray = ls at hl ⊢
  refine w_Q (fun Q hQ => ?_)
  have hl : lv_has ls 2 [(0, .ref h), (1, .int xc)] := hl
  rw [fX6_peak] at hF
  refine lv_iload_n hx hb dX6_peak_0 rfl (lv_at hl 1 rfl) ?_
  have hPc : va_P D vwCl [] s.heap := (pnil _ _ _)
  refine cs_i (va_runS (As := [.int xc]) (rest := []) ⟨hx, hb, hml, hown, hts⟩ (c_X6_isSign l D cI xc ) (va_cwS 1 hts gX6_peak_X6_isSign rfl rfl rfl (by decide +kernel) ⟨(Nat.le_of_ble_eq_true rfl), (Nat.le_of_ble_eq_true rfl)⟩) (ro_pre hPc hKi) rfl rfl hl.1 rfl (lv_room (Nat.le_of_ble_eq_true rfl)) dX6_peak_1 ⟨Nat.zero_le _, Nat.zero_le _⟩) ?_
  refine lv_if_eq (tgt := 19) hx hb dX6_peak_4 (by decide) (fun c4 => ?_) (fun c4 => ?_)
  · rw [if_pos c4] at hF
    refine lv_bipush (v := (-101)) hx hb dX6_peak_19 (by decide) ?_
    subst hQ
    exact W.iret (v := (-101)) hx hb hr (fun u9 ht hW => ⟨_, rfl, hF, ht⟩) (fun q hq => by cases hq) dX6_peak_21
  · rw [if_neg c4] at hF
    obtain ⟨cn, hcn, rfl⟩ := sg_nat c4
    have h16cn := hln cn (by omega)
    have e_cn : (nI cn).toNatClampNeg = cn := nI_clamp (by omega)
    try simp only [e_cn] at hF
    refine lv_aload_n hx hb dX6_peak_7 rfl (lv_at hl 0 rfl) ?_
    refine va_get (D := D) (ci := 4) (v := .ref sa) (C := RX6) (T := TX6) (N := 5) hx hb hts hinX6 hown hK.1 hP 0 rfl rfl 0 (by decide) hf11 (fun _ h9 => h9) rfl dX6_peak_8 ?_
    refine lv_iload_n hx hb dX6_peak_11 rfl (lv_at hl 1 rfl) ?_
    refine w_aref hx hb hK hP 1 1 rfl rfl cn rfl (by omega) (by omega) rfl dX6_peak_12 ?_
    have hPc : va_P D vwCl [(sg cn, .inr (3, [.ref (tg cn), .int (nI (ln cn))])), (tg cn, .inl (cI, 16, .inl (tr cn)))] s.heap := (pcons (i := (2 + 2 * cn)) hP (psw_s (by omega)) (pcons (i := (3 + 2 * cn)) hP (psw_t (by omega)) (pnil _ _ _)))
    refine cs_i (va_runV (As := []) (rest := []) ⟨hx, hb, hml, hown, hts⟩ (c_X5_greatestSide l D cI (sg cn) (tg cn) (tr cn) (ln cn) (by first | assumption | omega)) (cwV 0 hts gX6_peak_X5_greatestSide rfl rfl rfl (by decide +kernel) ⟨(Nat.le_of_ble_eq_true rfl), (Nat.le_of_ble_eq_true rfl)⟩) (ro_preV hPc hKi rfl (q0 := 0) rfl) rfl rfl hl.1 rfl (lv_room (Nat.le_of_ble_eq_true rfl)) dX6_peak_13 ⟨Nat.zero_le _, Nat.zero_le _⟩) ?_
    refine lv_goto (tgt := 21) hx hb dX6_peak_16 (by decide) ?_
    subst hQ
    exact W.iret (v := fX5_greatestSide (tr cn) (ln cn)) hx hb hr (fun u9 ht hW => ⟨_, rfl, hF, ht⟩) (fun q hq => by cases hq) dX6_peak_21
def fX6_flank (tr : Nat → Nat → Int32) (ln : Nat → Nat) (xc : Int32) : Int32 := (if (fX6_isSign xc) = 0 then (-101) else fX5_sumOfSides (tr (xc.toNatClampNeg)) (ln (xc.toNatClampNeg)))
abbrev rmX6_flank : Room := { frames := 5, cells := 0, slots := 0, locals := 115 }
set_option maxHeartbeats 4000000 in
set_option maxRecDepth 100000 in
theorem c_X6_flank (l : Launch) (D : va_G) (cI : ClassId) (cS : ClassId) (h : Nat) (sa : Nat) (sg : Nat → Nat) (tg : Nat → Nat) (tr : Nat → Nat → Int32) (ln : Nat → Nat) (fo : Nat) (ft : Nat) (fl : Nat → Int32) (fn : Nat) (ro : Nat) (tp : Nat) (tq : Nat) (per : Nat → Int32) (rea : Nat → Int32) (rn : Nat) (wo : Nat) (tn : Nat) (td : Nat) (rw : Nat → Int32) (wn : Nat) (od : Nat → Int32) (sr : Nat) (xc : Int32) (hln : ∀ c, c < 6 → 1 ≤ ln c ∧ ln c ≤ 16) : Met l yX6_flank wsX6_flank rmX6_flank (va_Pc [.ref h, .int xc] (roP D [(cI, .int), (cS, .object RX5)] (PSW cI cS h sa sg tg tr ln fo ft fl fn ro tp tq per rea rn wo tn td rw wn od sr))) (vp_Si (fun r9 => r9 = fX6_flank tr ln xc)) 0 0 (fun _ => False) := by
  generalize hF : fX6_flank tr ln xc = T
  refine Met.ofW (cc := cX6_flank) (maxL := 2) (ret := (some .int)) (by decide) rfl ?_
  intro p e s m args below meth c s₁ B hml hv
  obtain ⟨rfl, hP, hK⟩ := hv
  have hx := B.exec
  have hb := B.bytes
  have hr := B.returns
  have hts := atoms_spec (ws := wsX6_flank) B.pre
  have hown : s.vm.findClass RX6 = some m.cls := findClass_of_methodNamed B.named
  have hlocks := B.notSynchronized
  have hinX6 : ∀ w ∈ u_ws RX6 TX6 5, w ∈ wsX6_flank := by decide +kernel
  have hf11 := hts (.fieldLink RX6 11 "PulseSigns" "signs" "[LPulseSigns$Sign;") (by decide +kernel)
  have hKi := hK.sub [0] (tys' := [(cI, .int)]) rfl
  have hl := lv_entry ([.ref h, .int xc]) (n := 2) (Nat.le_of_ble_eq_true rfl)
  rw [lg_entry_eq]
  generalize (lg_sl ([.ref h, .int xc]) ++ List.replicate (2 - (lg_sl ([.ref h, .int xc])).length) Slot.unset).toArray = ls at hl ⊢
  refine w_Q (fun Q hQ => ?_)
  have hl : lv_has ls 2 [(0, .ref h), (1, .int xc)] := hl
  rw [fX6_flank] at hF
  refine lv_iload_n hx hb dX6_flank_0 rfl (lv_at hl 1 rfl) ?_
  have hPc : va_P D vwCl [] s.heap := (pnil _ _ _)
  refine cs_i (va_runS (As := [.int xc]) (rest := []) ⟨hx, hb, hml, hown, hts⟩ (c_X6_isSign l D cI xc ) (va_cwS 1 hts gX6_flank_X6_isSign rfl rfl rfl (by decide +kernel) ⟨(Nat.le_of_ble_eq_true rfl), (Nat.le_of_ble_eq_true rfl)⟩) (ro_pre hPc hKi) rfl rfl hl.1 rfl (lv_room (Nat.le_of_ble_eq_true rfl)) dX6_flank_1 ⟨Nat.zero_le _, Nat.zero_le _⟩) ?_
  refine lv_if_eq (tgt := 19) hx hb dX6_flank_4 (by decide) (fun c4 => ?_) (fun c4 => ?_)
  · rw [if_pos c4] at hF
    refine lv_bipush (v := (-101)) hx hb dX6_flank_19 (by decide) ?_
    subst hQ
    exact W.iret (v := (-101)) hx hb hr (fun u9 ht hW => ⟨_, rfl, hF, ht⟩) (fun q hq => by cases hq) dX6_flank_21
  · rw [if_neg c4] at hF
    obtain ⟨cn, hcn, rfl⟩ := sg_nat c4
    have h16cn := hln cn (by omega)
    have e_cn : (nI cn).toNatClampNeg = cn := nI_clamp (by omega)
    try simp only [e_cn] at hF
    refine lv_aload_n hx hb dX6_flank_7 rfl (lv_at hl 0 rfl) ?_
    refine va_get (D := D) (ci := 4) (v := .ref sa) (C := RX6) (T := TX6) (N := 5) hx hb hts hinX6 hown hK.1 hP 0 rfl rfl 0 (by decide) hf11 (fun _ h9 => h9) rfl dX6_flank_8 ?_
    refine lv_iload_n hx hb dX6_flank_11 rfl (lv_at hl 1 rfl) ?_
    refine w_aref hx hb hK hP 1 1 rfl rfl cn rfl (by omega) (by omega) rfl dX6_flank_12 ?_
    have hPc : va_P D vwCl [(sg cn, .inr (3, [.ref (tg cn), .int (nI (ln cn))])), (tg cn, .inl (cI, 16, .inl (tr cn)))] s.heap := (pcons (i := (2 + 2 * cn)) hP (psw_s (by omega)) (pcons (i := (3 + 2 * cn)) hP (psw_t (by omega)) (pnil _ _ _)))
    refine cs_i (va_runV (As := []) (rest := []) ⟨hx, hb, hml, hown, hts⟩ (c_X5_sumOfSides l D cI (sg cn) (tg cn) (tr cn) (ln cn) (by first | assumption | omega)) (cwV 0 hts gX6_flank_X5_sumOfSides rfl rfl rfl (by decide +kernel) ⟨(Nat.le_of_ble_eq_true rfl), (Nat.le_of_ble_eq_true rfl)⟩) (ro_preV hPc hKi rfl (q0 := 0) rfl) rfl rfl hl.1 rfl (lv_room (Nat.le_of_ble_eq_true rfl)) dX6_flank_13 ⟨Nat.zero_le _, Nat.zero_le _⟩) ?_
    refine lv_goto (tgt := 21) hx hb dX6_flank_16 (by decide) ?_
    subst hQ
    exact W.iret (v := fX5_sumOfSides (tr cn) (ln cn)) hx hb hr (fun u9 ht hW => ⟨_, rfl, hF, ht⟩) (fun q hq => by cases hq) dX6_flank_21
def fX6_worst (tr : Nat → Nat → Int32) (ln : Nat → Nat) (xc : Int32) : Int32 := (if (fX6_isSign xc) = 0 then (-101) else fX5_greatestOwnLook (tr (xc.toNatClampNeg)) (ln (xc.toNatClampNeg)))
abbrev rmX6_worst : Room := { frames := 5, cells := 0, slots := 0, locals := 116 }
set_option maxHeartbeats 4000000 in
set_option maxRecDepth 100000 in
theorem c_X6_worst (l : Launch) (D : va_G) (cI : ClassId) (cS : ClassId) (h : Nat) (sa : Nat) (sg : Nat → Nat) (tg : Nat → Nat) (tr : Nat → Nat → Int32) (ln : Nat → Nat) (fo : Nat) (ft : Nat) (fl : Nat → Int32) (fn : Nat) (ro : Nat) (tp : Nat) (tq : Nat) (per : Nat → Int32) (rea : Nat → Int32) (rn : Nat) (wo : Nat) (tn : Nat) (td : Nat) (rw : Nat → Int32) (wn : Nat) (od : Nat → Int32) (sr : Nat) (xc : Int32) (hln : ∀ c, c < 6 → 1 ≤ ln c ∧ ln c ≤ 16) : Met l yX6_worst wsX6_worst rmX6_worst (va_Pc [.ref h, .int xc] (roP D [(cI, .int), (cS, .object RX5)] (PSW cI cS h sa sg tg tr ln fo ft fl fn ro tp tq per rea rn wo tn td rw wn od sr))) (vp_Si (fun r9 => r9 = fX6_worst tr ln xc)) 0 0 (fun _ => False) := by
  generalize hF : fX6_worst tr ln xc = T
  refine Met.ofW (cc := cX6_worst) (maxL := 2) (ret := (some .int)) (by decide) rfl ?_
  intro p e s m args below meth c s₁ B hml hv
  obtain ⟨rfl, hP, hK⟩ := hv
  have hx := B.exec
  have hb := B.bytes
  have hr := B.returns
  have hts := atoms_spec (ws := wsX6_worst) B.pre
  have hown : s.vm.findClass RX6 = some m.cls := findClass_of_methodNamed B.named
  have hlocks := B.notSynchronized
  have hinX6 : ∀ w ∈ u_ws RX6 TX6 5, w ∈ wsX6_worst := by decide +kernel
  have hf11 := hts (.fieldLink RX6 11 "PulseSigns" "signs" "[LPulseSigns$Sign;") (by decide +kernel)
  have hKi := hK.sub [0] (tys' := [(cI, .int)]) rfl
  have hl := lv_entry ([.ref h, .int xc]) (n := 2) (Nat.le_of_ble_eq_true rfl)
  rw [lg_entry_eq]
  generalize (lg_sl ([.ref h, .int xc]) ++ List.replicate (2 - (lg_sl ([.ref h, .int xc])).length) Slot.unset).toArray = ls at hl ⊢
  refine w_Q (fun Q hQ => ?_)
  have hl : lv_has ls 2 [(0, .ref h), (1, .int xc)] := hl
  rw [fX6_worst] at hF
  refine lv_iload_n hx hb dX6_worst_0 rfl (lv_at hl 1 rfl) ?_
  have hPc : va_P D vwCl [] s.heap := (pnil _ _ _)
  refine cs_i (va_runS (As := [.int xc]) (rest := []) ⟨hx, hb, hml, hown, hts⟩ (c_X6_isSign l D cI xc ) (va_cwS 1 hts gX6_worst_X6_isSign rfl rfl rfl (by decide +kernel) ⟨(Nat.le_of_ble_eq_true rfl), (Nat.le_of_ble_eq_true rfl)⟩) (ro_pre hPc hKi) rfl rfl hl.1 rfl (lv_room (Nat.le_of_ble_eq_true rfl)) dX6_worst_1 ⟨Nat.zero_le _, Nat.zero_le _⟩) ?_
  refine lv_if_eq (tgt := 19) hx hb dX6_worst_4 (by decide) (fun c4 => ?_) (fun c4 => ?_)
  · rw [if_pos c4] at hF
    refine lv_bipush (v := (-101)) hx hb dX6_worst_19 (by decide) ?_
    subst hQ
    exact W.iret (v := (-101)) hx hb hr (fun u9 ht hW => ⟨_, rfl, hF, ht⟩) (fun q hq => by cases hq) dX6_worst_21
  · rw [if_neg c4] at hF
    obtain ⟨cn, hcn, rfl⟩ := sg_nat c4
    have h16cn := hln cn (by omega)
    have e_cn : (nI cn).toNatClampNeg = cn := nI_clamp (by omega)
    try simp only [e_cn] at hF
    refine lv_aload_n hx hb dX6_worst_7 rfl (lv_at hl 0 rfl) ?_
    refine va_get (D := D) (ci := 4) (v := .ref sa) (C := RX6) (T := TX6) (N := 5) hx hb hts hinX6 hown hK.1 hP 0 rfl rfl 0 (by decide) hf11 (fun _ h9 => h9) rfl dX6_worst_8 ?_
    refine lv_iload_n hx hb dX6_worst_11 rfl (lv_at hl 1 rfl) ?_
    refine w_aref hx hb hK hP 1 1 rfl rfl cn rfl (by omega) (by omega) rfl dX6_worst_12 ?_
    have hPc : va_P D vwCl [(sg cn, .inr (3, [.ref (tg cn), .int (nI (ln cn))])), (tg cn, .inl (cI, 16, .inl (tr cn)))] s.heap := (pcons (i := (2 + 2 * cn)) hP (psw_s (by omega)) (pcons (i := (3 + 2 * cn)) hP (psw_t (by omega)) (pnil _ _ _)))
    refine cs_i (va_runV (As := []) (rest := []) ⟨hx, hb, hml, hown, hts⟩ (c_X5_greatestOwnLook l D cI (sg cn) (tg cn) (tr cn) (ln cn) (by first | assumption | omega)) (cwV 0 hts gX6_worst_X5_greatestOwnLook rfl rfl rfl (by decide +kernel) ⟨(Nat.le_of_ble_eq_true rfl), (Nat.le_of_ble_eq_true rfl)⟩) (ro_preV hPc hKi rfl (q0 := 0) rfl) rfl rfl hl.1 rfl (lv_room (Nat.le_of_ble_eq_true rfl)) dX6_worst_13 ⟨Nat.zero_le _, Nat.zero_le _⟩) ?_
    refine lv_goto (tgt := 21) hx hb dX6_worst_16 (by decide) ?_
    subst hQ
    exact W.iret (v := fX5_greatestOwnLook (tr cn) (ln cn)) hx hb hr (fun u9 ht hW => ⟨_, rfl, hF, ht⟩) (fun q hq => by cases hq) dX6_worst_21
def fX6_best (tr : Nat → Nat → Int32) (ln : Nat → Nat) (sr : Nat) (xc : Int32) (xn : Int32) : Int32 × (Nat → Nat → Int32) × (Nat → Nat) × Nat := (if (fX6_isSign xc) = 0 then ((-101), tr, ln, sr) else (if (fX6_within xn 1 12) = 0 then ((-102), tr, ln, sr) else (if (nI sr) < 30 then (fX5_greatestSide ((upR tr (xc.toNatClampNeg) ((fX5_takeBits (tr (xc.toNatClampNeg)) (fX4_leastSided (xn.toNatClampNeg)) (xn.toNatClampNeg)).2)) (xc.toNatClampNeg)) ((updN ln (xc.toNatClampNeg) ((fX5_takeBits (tr (xc.toNatClampNeg)) (fX4_leastSided (xn.toNatClampNeg)) (xn.toNatClampNeg)).1)) (xc.toNatClampNeg)), upR tr (xc.toNatClampNeg) ((fX5_takeBits (tr (xc.toNatClampNeg)) (fX4_leastSided (xn.toNatClampNeg)) (xn.toNatClampNeg)).2), updN ln (xc.toNatClampNeg) ((fX5_takeBits (tr (xc.toNatClampNeg)) (fX4_leastSided (xn.toNatClampNeg)) (xn.toNatClampNeg)).1), (sr + 1)) else ((-104), tr, ln, sr))))
abbrev rmX6_best : Room := { frames := 5, cells := 0, slots := 0, locals := 115 }
set_option maxHeartbeats 4000000 in
set_option maxRecDepth 100000 in
theorem c_X6_best (l : Launch) (D : va_G) (cI : ClassId) (cS : ClassId) (sz : Nat) (h : Nat) (sa : Nat) (sg : Nat → Nat) (tg : Nat → Nat) (tr : Nat → Nat → Int32) (ln : Nat → Nat) (fo : Nat) (ft : Nat) (fl : Nat → Int32) (fn : Nat) (ro : Nat) (tp : Nat) (tq : Nat) (per : Nat → Int32) (rea : Nat → Int32) (rn : Nat) (wo : Nat) (tn : Nat) (td : Nat) (rw : Nat → Int32) (wn : Nat) (od : Nat → Int32) (sr : Nat) (xc : Int32) (xn : Int32) (hln : ∀ c, c < 6 → 1 ≤ ln c ∧ ln c ≤ 16) : Met l yX6_best wsX6_best rmX6_best (va_Pc [.ref h, .int xc, .int xn] (wrP D [(cI, .int), (cS, .object RX5)] (PSW cI cS h sa sg tg tr ln fo ft fl fn ro tp tq per rea rn wo tn td rw wn od sr) sz)) (va_Qi (fun r9 (_ : Unit) => r9 = (fX6_best tr ln sr xc xn).1) (fun _ u9 => va_P D vwCl (PSW cI cS h sa sg tg ((fX6_best tr ln sr xc xn).2.1) ((fX6_best tr ln sr xc xn).2.2.1) fo ft fl fn ro tp tq per rea rn wo tn td rw wn od ((fX6_best tr ln sr xc xn).2.2.2)) u9.heap) (va_A (PSW cI cS h sa sg tg tr ln fo ft fl fn ro tp tq per rea rn wo tn td rw wn od sr) sz)) 0 0 (va_A (PSW cI cS h sa sg tg tr ln fo ft fl fn ro tp tq per rea rn wo tn td rw wn od sr) sz) := by
  generalize hF : fX6_best tr ln sr xc xn = T
  refine Met.ofW (cc := cX6_best) (maxL := 3) (ret := (some .int)) (by decide) rfl ?_
  intro p e s m args below meth c s₁ B hml hv
  obtain ⟨rfl, hsz, hP, hK, hD0⟩ := hv
  have hx := B.exec
  have hb := B.bytes
  have hr := B.returns
  have hts := atoms_spec (ws := wsX6_best) B.pre
  have hown : s.vm.findClass RX6 = some m.cls := findClass_of_methodNamed B.named
  have hlocks := B.notSynchronized
  have hinX6 : ∀ w ∈ u_ws RX6 TX6 5, w ∈ wsX6_best := by decide +kernel
  have hf36 := hts (.fieldLink RX6 36 "PulseSigns" "searches" "I") (by decide +kernel)
  have hf11 := hts (.fieldLink RX6 11 "PulseSigns" "signs" "[LPulseSigns$Sign;") (by decide +kernel)
  subst hsz
  have hD := hD0.self (sz := s.heap.size)
  generalize hAe : va_A (PSW cI cS h sa sg tg tr ln fo ft fl fn ro tp tq per rea rn wo tn td rw wn od sr) s.heap.size = A at hD ⊢
  have hA : ∀ q : Nat, s.heap.size ≤ q → A q := fun q h => by rw [← hAe]; exact Or.inr h
  have hS : va_S A s.heap s.heap [] := va_S.rf
  have hP : va_P D vwCl (PSW cI cS h sa sg tg tr ln fo ft fl fn ro tp tq per rea rn wo tn td rw wn od sr) s.heap := hP
  have hKi := hK.sub [0] (tys' := [(cI, .int)]) rfl
  have hl := lv_entry ([.ref h, .int xc, .int xn]) (n := 3) (Nat.le_of_ble_eq_true rfl)
  rw [lg_entry_eq]
  generalize (lg_sl ([.ref h, .int xc, .int xn]) ++ List.replicate (3 - (lg_sl ([.ref h, .int xc, .int xn])).length) Slot.unset).toArray = ls at hl ⊢
  refine w_Q (fun Q hQ => ?_)
  have hl : lv_has ls 3 [(0, .ref h), (1, .int xc), (2, .int xn)] := hl
  rw [fX6_best] at hF
  refine lv_iload_n hx hb dX6_best_0 rfl (lv_at hl 1 rfl) ?_
  have hPc : va_P D vwCl [] s.heap := (pnil _ _ _)
  refine cs_i (va_runS (As := [.int xc]) (rest := []) ⟨hx, hb, hml, hown, hts⟩ (c_X6_isSign l D cI xc ) (va_cwS 1 hts gX6_best_X6_isSign rfl rfl rfl (by decide +kernel) ⟨(Nat.le_of_ble_eq_true rfl), (Nat.le_of_ble_eq_true rfl)⟩) (ro_pre hPc hKi) rfl rfl hl.1 rfl (lv_room (Nat.le_of_ble_eq_true rfl)) dX6_best_1 ⟨Nat.zero_le _, Nat.zero_le _⟩) ?_
  refine lv_if_ne (tgt := 10) hx hb dX6_best_4 (by decide) (fun c4 => ?_) (fun c4 => ?_)
  · rw [if_neg c4] at hF
    obtain ⟨cn, hcn, rfl⟩ := sg_nat c4
    have h16cn := hln cn (by omega)
    have e_cn : (nI cn).toNatClampNeg = cn := nI_clamp (by omega)
    try simp only [e_cn] at hF
    refine lv_iload_n hx hb dX6_best_10 rfl (lv_at hl 2 rfl) ?_
    refine lv_iconst (v := 1) hx hb dX6_best_11 (by decide) ?_
    refine lv_bipush (v := 12) hx hb dX6_best_12 (by decide) ?_
    have hPc : va_P D vwCl [] s.heap := (pnil _ _ _)
    refine cs_i (va_runS (As := [.int xn, .int 1, .int 12]) (rest := []) ⟨hx, hb, hml, hown, hts⟩ (c_X6_within l D cI xn 1 12 ) (va_cwS 3 hts gX6_best_X6_within rfl rfl rfl (by decide +kernel) ⟨(Nat.le_of_ble_eq_true rfl), (Nat.le_of_ble_eq_true rfl)⟩) (ro_pre hPc hKi) rfl rfl hl.1 rfl (lv_room (Nat.le_of_ble_eq_true rfl)) dX6_best_14 ⟨Nat.zero_le _, Nat.zero_le _⟩) ?_
    refine lv_if_ne (tgt := 23) hx hb dX6_best_17 (by decide) (fun c17 => ?_) (fun c17 => ?_)
    · rw [if_neg c17] at hF
      obtain ⟨nn, hnn1, hnn, rfl⟩ := wt_nat (a := 1) (b := 12) c17 (by omega)
      have e_nn : (nI nn).toNatClampNeg = nn := nI_clamp (by omega)
      try simp only [e_nn] at hF
      refine lv_aload_n hx hb dX6_best_23 rfl (lv_at hl 0 rfl) ?_
      refine va_get (D := D) (ci := 4) (v := .int (nI sr)) (C := RX6) (T := TX6) (N := 5) hx hb hts hinX6 hown hK.1 hP 0 rfl rfl 4 (by decide) hf36 (fun _ h9 => h9) rfl dX6_best_24 ?_
      refine lv_bipush (v := 30) hx hb dX6_best_27 (by decide) ?_
      refine lv_icmp_lt (tgt := 35) hx hb dX6_best_29 (by decide) (fun c29 => ?_) (fun c29 => ?_)
      · rw [if_pos c29] at hF
        refine lv_aload_n hx hb dX6_best_35 rfl (lv_at hl 0 rfl) ?_
        refine lv_dup hx hb dX6_best_36 rfl ?_
        refine va_get (D := D) (ci := 4) (v := .int (nI sr)) (C := RX6) (T := TX6) (N := 5) hx hb hts hinX6 hown hK.1 hP 0 rfl rfl 4 (by decide) hf36 (fun _ h9 => h9) rfl dX6_best_37 ?_
        refine lv_iconst (v := 1) hx hb dX6_best_40 (by decide) ?_
        refine lv_iadd hx hb dX6_best_41 ?_
        rw [nI_1]
        refine va_put (D := D) (ci := 4) (v := .int (nI (sr + 1))) (ty := .int) (C := RX6) (T := TX6) (N := 5) hx hb hts hinX6 tyX6 tyX6_ok nmX6 hown hK.1 hP hD hS 0 rfl rfl 4 (by decide) hf36 (fun _ h9 => h9) rfl (by decide +kernel) rfl rfl (Nat.le_of_ble_eq_true rfl) dX6_best_42 (fun H locs hP hD hS => ?_)
        have hP : va_P D vwCl (PSW cI cS h sa sg tg tr ln fo ft fl fn ro tp tq per rea rn wo tn td rw wn od (sr + 1)) H := hP
        have hD : va_D A (PSW cI cS h sa sg tg tr ln fo ft fl fn ro tp tq per rea rn wo tn td rw wn od (sr + 1)) := hD
        refine lv_aload_n hx hb dX6_best_45 rfl (lv_at hl 0 rfl) ?_
        refine va_get (D := D) (ci := 4) (v := .ref sa) (C := RX6) (T := TX6) (N := 5) hx hb hts hinX6 hown hK.1 hP 0 rfl rfl 0 (by decide) hf11 (fun _ h9 => h9) rfl dX6_best_46 ?_
        refine lv_iload_n hx hb dX6_best_49 rfl (lv_at hl 1 rfl) ?_
        refine w_aref hx hb hK hP 1 1 rfl rfl cn rfl (by omega) (by omega) rfl dX6_best_50 ?_
        refine lv_iload_n hx hb dX6_best_51 rfl (lv_at hl 2 rfl) ?_
        have hPc : va_P D vwCl [] H := (pnil _ _ _)
        refine cs_i (va_runS (As := [.int (nI nn)]) (rest := [.ref (sg cn)]) ⟨hx, hb, hml, hown, hts⟩ (c_X4_leastSided l D cI nn (by first | assumption | omega) (by first | assumption | omega)) (va_cwS 1 hts gX6_best_X4_leastSided rfl rfl rfl (by decide +kernel) ⟨(Nat.le_of_ble_eq_true rfl), (Nat.le_of_ble_eq_true rfl)⟩) (ro_pre hPc hKi) rfl rfl hl.1 rfl (lv_room (Nat.le_of_ble_eq_true rfl)) dX6_best_52 ⟨Nat.zero_le _, Nat.zero_le _⟩) ?_
        refine lv_iload_n hx hb dX6_best_55 rfl (lv_at hl 2 rfl) ?_
        have hPc : va_P D vwCl [(sg cn, .inr (3, [.ref (tg cn), .int (nI (ln cn))])), (tg cn, .inl (cI, 16, .inl (tr cn)))] H := (pcons (i := (2 + 2 * cn)) hP (psw_s (by omega)) (pcons (i := (3 + 2 * cn)) hP (psw_t (by omega)) (pnil _ _ _)))
        have hDc : va_D A [(sg cn, .inr (3, [.ref (tg cn), .int (nI (ln cn))])), (tg cn, .inl (cI, 16, .inl (tr cn)))] := hD.sub [(2 + 2 * cn), (3 + 2 * cn)] (by simp [va_nd] <;> omega) (pmapc (psw_s (by omega)) (pmapc (psw_t (by omega)) pmapn))
        refine cx_v (va_runV (As := [.int (fX4_leastSided nn), .int (nI nn)]) (rest := []) ⟨hx, hb, hml, hown, hts⟩ (c_X5_takeBits l D cI H.size (sg cn) (tg cn) (tr cn) (ln cn) (fX4_leastSided nn) nn (by first | assumption | omega)) (cwV 2 hts gX6_best_X5_takeBits rfl rfl rfl (by decide +kernel) ⟨(Nat.le_of_ble_eq_true rfl), (Nat.le_of_ble_eq_true rfl)⟩) (wr_preV hPc hDc hKi rfl (q0 := 0) rfl) rfl rfl hl.1 rfl (lv_room (Nat.le_of_ble_eq_true rfl)) dX6_best_56 ⟨Nat.zero_le _, Nat.zero_le _⟩) hP hD hS hA [(2 + 2 * cn), (3 + 2 * cn)] (pmapc (psw_s (by omega)) (pmapc (psw_t (by omega)) pmapn)) [sg cn, tg cn] rfl rfl (fun H locs hP hD hS => ?_)
        rw [psw_sign (by omega)] at hP hD
        have hP : va_P D vwCl (PSW cI cS h sa sg tg (upR tr cn ((fX5_takeBits (tr cn) (fX4_leastSided nn) nn).2)) (updN ln cn ((fX5_takeBits (tr cn) (fX4_leastSided nn) nn).1)) fo ft fl fn ro tp tq per rea rn wo tn td rw wn od (sr + 1)) H := hP
        have hD : va_D A (PSW cI cS h sa sg tg (upR tr cn ((fX5_takeBits (tr cn) (fX4_leastSided nn) nn).2)) (updN ln cn ((fX5_takeBits (tr cn) (fX4_leastSided nn) nn).1)) fo ft fl fn ro tp tq per rea rn wo tn td rw wn od (sr + 1)) := hD
        refine lv_aload_n hx hb dX6_best_59 rfl (lv_at hl 0 rfl) ?_
        refine va_get (D := D) (ci := 4) (v := .ref sa) (C := RX6) (T := TX6) (N := 5) hx hb hts hinX6 hown hK.1 hP 0 rfl rfl 0 (by decide) hf11 (fun _ h9 => h9) rfl dX6_best_60 ?_
        refine lv_iload_n hx hb dX6_best_63 rfl (lv_at hl 1 rfl) ?_
        refine w_aref hx hb hK hP 1 1 rfl rfl cn rfl (by omega) (by omega) rfl dX6_best_64 ?_
        have hPc : va_P D vwCl [(sg cn, .inr (3, [.ref (tg cn), .int (nI ((updN ln cn ((fX5_takeBits (tr cn) (fX4_leastSided nn) nn).1)) cn))])), (tg cn, .inl (cI, 16, .inl ((upR tr cn ((fX5_takeBits (tr cn) (fX4_leastSided nn) nn).2)) cn)))] H := (pcons (i := (2 + 2 * cn)) hP (psw_s (by omega)) (pcons (i := (3 + 2 * cn)) hP (psw_t (by omega)) (pnil _ _ _)))
        refine cs_i (va_runV (As := []) (rest := []) ⟨hx, hb, hml, hown, hts⟩ (c_X5_greatestSide l D cI (sg cn) (tg cn) ((upR tr cn ((fX5_takeBits (tr cn) (fX4_leastSided nn) nn).2)) cn) ((updN ln cn ((fX5_takeBits (tr cn) (fX4_leastSided nn) nn).1)) cn) (by rw [show ∀ (f : Nat → Nat) (a b : Nat), updN f a b a = b from fun f a b => if_pos rfl]; rw [tb1]; omega)) (cwV 0 hts gX6_best_X5_greatestSide rfl rfl rfl (by decide +kernel) ⟨(Nat.le_of_ble_eq_true rfl), (Nat.le_of_ble_eq_true rfl)⟩) (ro_preV hPc hKi rfl (q0 := 0) rfl) rfl rfl hl.1 rfl (lv_room (Nat.le_of_ble_eq_true rfl)) dX6_best_65 ⟨Nat.zero_le _, Nat.zero_le _⟩) ?_
        subst hF
        subst hQ
        exact W.iret (v := fX5_greatestSide ((upR tr cn ((fX5_takeBits (tr cn) (fX4_leastSided nn) nn).2)) cn) ((updN ln cn ((fX5_takeBits (tr cn) (fX4_leastSided nn) nn).1)) cn)) hx hb hr (fun u9 ht hW => ⟨⟨_, (), rfl, rfl, by rw [← ht] at hP; exact hP⟩, hS.F ht⟩) hS.2.2 dX6_best_68
      · rw [if_neg c29] at hF
        refine lv_bipush (v := (-104)) hx hb dX6_best_32 (by decide) ?_
        subst hF
        subst hQ
        exact W.iret (v := (-104)) hx hb hr (fun u9 ht hW => ⟨⟨_, (), rfl, rfl, by rw [← ht] at hP; exact hP⟩, hS.F ht⟩) hS.2.2 dX6_best_34
    · rw [if_pos c17] at hF
      refine lv_bipush (v := (-102)) hx hb dX6_best_20 (by decide) ?_
      subst hF
      subst hQ
      exact W.iret (v := (-102)) hx hb hr (fun u9 ht hW => ⟨⟨_, (), rfl, rfl, by rw [← ht] at hP; exact hP⟩, hS.F ht⟩) hS.2.2 dX6_best_22
  · rw [if_pos c4] at hF
    refine lv_bipush (v := (-101)) hx hb dX6_best_7 (by decide) ?_
    subst hF
    subst hQ
    exact W.iret (v := (-101)) hx hb hr (fun u9 ht hW => ⟨⟨_, (), rfl, rfl, by rw [← ht] at hP; exact hP⟩, hS.F ht⟩) hS.2.2 dX6_best_9
def fX6_pair (tr : Nat → Nat → Int32) (ln : Nat → Nat) (xa : Int32) (xb : Int32) : Int32 := (if (fX6_isSign xa) = 0 then (-101) else (if (fX6_isSign xb) = 0 then (-101) else (if (fX5_sidesGoOutWith (tr (xa.toNatClampNeg)) (ln (xa.toNatClampNeg)) (tr (xb.toNatClampNeg)) (ln (xb.toNatClampNeg))) = 0 then 0 else 1)))
abbrev rmX6_pair : Room := { frames := 4, cells := 0, slots := 0, locals := 92 }
set_option maxHeartbeats 4000000 in
set_option maxRecDepth 100000 in
theorem c_X6_pair (l : Launch) (D : va_G) (cI : ClassId) (cS : ClassId) (h : Nat) (sa : Nat) (sg : Nat → Nat) (tg : Nat → Nat) (tr : Nat → Nat → Int32) (ln : Nat → Nat) (fo : Nat) (ft : Nat) (fl : Nat → Int32) (fn : Nat) (ro : Nat) (tp : Nat) (tq : Nat) (per : Nat → Int32) (rea : Nat → Int32) (rn : Nat) (wo : Nat) (tn : Nat) (td : Nat) (rw : Nat → Int32) (wn : Nat) (od : Nat → Int32) (sr : Nat) (xa : Int32) (xb : Int32) (hln : ∀ c, c < 6 → 1 ≤ ln c ∧ ln c ≤ 16) : Met l yX6_pair wsX6_pair rmX6_pair (va_Pc [.ref h, .int xa, .int xb] (roP D [(cI, .int), (cS, .object RX5)] (PSW cI cS h sa sg tg tr ln fo ft fl fn ro tp tq per rea rn wo tn td rw wn od sr))) (vp_Si (fun r9 => r9 = fX6_pair tr ln xa xb)) 0 0 (fun _ => False) := by
  generalize hF : fX6_pair tr ln xa xb = T
  refine Met.ofW (cc := cX6_pair) (maxL := 3) (ret := (some .int)) (by decide) rfl ?_
  intro p e s m args below meth c s₁ B hml hv
  obtain ⟨rfl, hP, hK⟩ := hv
  have hx := B.exec
  have hb := B.bytes
  have hr := B.returns
  have hts := atoms_spec (ws := wsX6_pair) B.pre
  have hown : s.vm.findClass RX6 = some m.cls := findClass_of_methodNamed B.named
  have hlocks := B.notSynchronized
  have hinX6 : ∀ w ∈ u_ws RX6 TX6 5, w ∈ wsX6_pair := by decide +kernel
  have hf11 := hts (.fieldLink RX6 11 "PulseSigns" "signs" "[LPulseSigns$Sign;") (by decide +kernel)
  have hKi := hK.sub [0] (tys' := [(cI, .int)]) rfl
  have hl := lv_entry ([.ref h, .int xa, .int xb]) (n := 3) (Nat.le_of_ble_eq_true rfl)
  rw [lg_entry_eq]
  generalize (lg_sl ([.ref h, .int xa, .int xb]) ++ List.replicate (3 - (lg_sl ([.ref h, .int xa, .int xb])).length) Slot.unset).toArray = ls at hl ⊢
  refine w_Q (fun Q hQ => ?_)
  have hl : lv_has ls 3 [(0, .ref h), (1, .int xa), (2, .int xb)] := hl
  rw [fX6_pair] at hF
  refine lv_iload_n hx hb dX6_pair_0 rfl (lv_at hl 1 rfl) ?_
  have hPc : va_P D vwCl [] s.heap := (pnil _ _ _)
  refine cs_i (va_runS (As := [.int xa]) (rest := []) ⟨hx, hb, hml, hown, hts⟩ (c_X6_isSign l D cI xa ) (va_cwS 1 hts gX6_pair_X6_isSign rfl rfl rfl (by decide +kernel) ⟨(Nat.le_of_ble_eq_true rfl), (Nat.le_of_ble_eq_true rfl)⟩) (ro_pre hPc hKi) rfl rfl hl.1 rfl (lv_room (Nat.le_of_ble_eq_true rfl)) dX6_pair_1 ⟨Nat.zero_le _, Nat.zero_le _⟩) ?_
  refine lv_if_eq (tgt := 14) hx hb dX6_pair_4 (by decide) (fun c4 => ?_) (fun c4 => ?_)
  · rw [if_pos c4] at hF
    refine lv_bipush (v := (-101)) hx hb dX6_pair_14 (by decide) ?_
    subst hQ
    exact W.iret (v := (-101)) hx hb hr (fun u9 ht hW => ⟨_, rfl, hF, ht⟩) (fun q hq => by cases hq) dX6_pair_16
  · rw [if_neg c4] at hF
    obtain ⟨an, han, rfl⟩ := sg_nat c4
    have h16an := hln an (by omega)
    have e_an : (nI an).toNatClampNeg = an := nI_clamp (by omega)
    try simp only [e_an] at hF
    refine lv_iload_n hx hb dX6_pair_7 rfl (lv_at hl 2 rfl) ?_
    have hPc : va_P D vwCl [] s.heap := (pnil _ _ _)
    refine cs_i (va_runS (As := [.int xb]) (rest := []) ⟨hx, hb, hml, hown, hts⟩ (c_X6_isSign l D cI xb ) (va_cwS 1 hts gX6_pair_X6_isSign rfl rfl rfl (by decide +kernel) ⟨(Nat.le_of_ble_eq_true rfl), (Nat.le_of_ble_eq_true rfl)⟩) (ro_pre hPc hKi) rfl rfl hl.1 rfl (lv_room (Nat.le_of_ble_eq_true rfl)) dX6_pair_8 ⟨Nat.zero_le _, Nat.zero_le _⟩) ?_
    refine lv_if_ne (tgt := 17) hx hb dX6_pair_11 (by decide) (fun c11 => ?_) (fun c11 => ?_)
    · rw [if_neg c11] at hF
      obtain ⟨bn, hbn, rfl⟩ := sg_nat c11
      have h16bn := hln bn (by omega)
      have e_bn : (nI bn).toNatClampNeg = bn := nI_clamp (by omega)
      try simp only [e_bn] at hF
      refine lv_aload_n hx hb dX6_pair_17 rfl (lv_at hl 0 rfl) ?_
      refine va_get (D := D) (ci := 4) (v := .ref sa) (C := RX6) (T := TX6) (N := 5) hx hb hts hinX6 hown hK.1 hP 0 rfl rfl 0 (by decide) hf11 (fun _ h9 => h9) rfl dX6_pair_18 ?_
      refine lv_iload_n hx hb dX6_pair_21 rfl (lv_at hl 1 rfl) ?_
      refine w_aref hx hb hK hP 1 1 rfl rfl an rfl (by omega) (by omega) rfl dX6_pair_22 ?_
      refine lv_aload_n hx hb dX6_pair_23 rfl (lv_at hl 0 rfl) ?_
      refine va_get (D := D) (ci := 4) (v := .ref sa) (C := RX6) (T := TX6) (N := 5) hx hb hts hinX6 hown hK.1 hP 0 rfl rfl 0 (by decide) hf11 (fun _ h9 => h9) rfl dX6_pair_24 ?_
      refine lv_iload_n hx hb dX6_pair_27 rfl (lv_at hl 2 rfl) ?_
      refine w_aref hx hb hK hP 1 1 rfl rfl bn rfl (by omega) (by omega) rfl dX6_pair_28 ?_
      have hPc : va_P D vwCl [(sg an, .inr (3, [.ref (tg an), .int (nI (ln an))])), (tg an, .inl (cI, 16, .inl (tr an))), (sg bn, .inr (3, [.ref (tg bn), .int (nI (ln bn))])), (tg bn, .inl (cI, 16, .inl (tr bn)))] s.heap := (pcons (i := (2 + 2 * an)) hP (psw_s (by omega)) (pcons (i := (3 + 2 * an)) hP (psw_t (by omega)) (pcons (i := (2 + 2 * bn)) hP (psw_s (by omega)) (pcons (i := (3 + 2 * bn)) hP (psw_t (by omega)) (pnil _ _ _)))))
      refine cs_i (va_runV (As := [.ref (sg bn)]) (rest := []) ⟨hx, hb, hml, hown, hts⟩ (c_X5_sidesGoOutWith l D cI (sg an) (tg an) (tr an) (ln an) (sg bn) (tg bn) (tr bn) (ln bn) (by first | assumption | omega) (by first | assumption | omega)) (cwV 1 hts gX6_pair_X5_sidesGoOutWith rfl rfl rfl (by decide +kernel) ⟨(Nat.le_of_ble_eq_true rfl), (Nat.le_of_ble_eq_true rfl)⟩) (ro_preV hPc hKi rfl (q0 := 0) rfl) rfl rfl hl.1 rfl (lv_room (Nat.le_of_ble_eq_true rfl)) dX6_pair_29 ⟨Nat.zero_le _, Nat.zero_le _⟩) ?_
      refine lv_if_eq (tgt := 39) hx hb dX6_pair_32 (by decide) (fun c32 => ?_) (fun c32 => ?_)
      · rw [if_pos c32] at hF
        refine lv_iconst (v := 0) hx hb dX6_pair_39 (by decide) ?_
        subst hQ
        exact W.iret (v := 0) hx hb hr (fun u9 ht hW => ⟨_, rfl, hF, ht⟩) (fun q hq => by cases hq) dX6_pair_40
      · rw [if_neg c32] at hF
        refine lv_iconst (v := 1) hx hb dX6_pair_35 (by decide) ?_
        refine lv_goto (tgt := 40) hx hb dX6_pair_36 (by decide) ?_
        subst hQ
        exact W.iret (v := 1) hx hb hr (fun u9 ht hW => ⟨_, rfl, hF, ht⟩) (fun q hq => by cases hq) dX6_pair_40
    · rw [if_pos c11] at hF
      refine lv_bipush (v := (-101)) hx hb dX6_pair_14 (by decide) ?_
      subst hQ
      exact W.iret (v := (-101)) hx hb hr (fun u9 ht hW => ⟨_, rfl, hF, ht⟩) (fun q hq => by cases hq) dX6_pair_16
def fX6_filter (fl : Nat → Int32) (fn : Nat) (xn : Int32) : Int32 × (Nat → Int32) × Nat := (if (fX6_within xn 1 24) = 0 then ((-102), fl, fn) else (nI (xn.toNatClampNeg), (fX1_reset fl (xn.toNatClampNeg)).2, (fX1_reset fl (xn.toNatClampNeg)).1))
abbrev rmX6_filter : Room := { frames := 1, cells := 0, slots := 0, locals := 22 }
set_option maxHeartbeats 4000000 in
set_option maxRecDepth 100000 in
theorem c_X6_filter (l : Launch) (D : va_G) (cI : ClassId) (cS : ClassId) (sz : Nat) (h : Nat) (sa : Nat) (sg : Nat → Nat) (tg : Nat → Nat) (tr : Nat → Nat → Int32) (ln : Nat → Nat) (fo : Nat) (ft : Nat) (fl : Nat → Int32) (fn : Nat) (ro : Nat) (tp : Nat) (tq : Nat) (per : Nat → Int32) (rea : Nat → Int32) (rn : Nat) (wo : Nat) (tn : Nat) (td : Nat) (rw : Nat → Int32) (wn : Nat) (od : Nat → Int32) (sr : Nat) (xn : Int32)  : Met l yX6_filter wsX6_filter rmX6_filter (va_Pc [.ref h, .int xn] (wrP D [(cI, .int), (cS, .object RX5)] (PSW cI cS h sa sg tg tr ln fo ft fl fn ro tp tq per rea rn wo tn td rw wn od sr) sz)) (va_Qi (fun r9 (_ : Unit) => r9 = (fX6_filter fl fn xn).1) (fun _ u9 => va_P D vwCl (PSW cI cS h sa sg tg tr ln fo ft ((fX6_filter fl fn xn).2.1) ((fX6_filter fl fn xn).2.2) ro tp tq per rea rn wo tn td rw wn od sr) u9.heap) (va_A (PSW cI cS h sa sg tg tr ln fo ft fl fn ro tp tq per rea rn wo tn td rw wn od sr) sz)) 0 0 (va_A (PSW cI cS h sa sg tg tr ln fo ft fl fn ro tp tq per rea rn wo tn td rw wn od sr) sz) := by
  generalize hF : fX6_filter fl fn xn = T
  refine Met.ofW (cc := cX6_filter) (maxL := 2) (ret := (some .int)) (by decide) rfl ?_
  intro p e s m args below meth c s₁ B hml hv
  obtain ⟨rfl, hsz, hP, hK, hD0⟩ := hv
  have hx := B.exec
  have hb := B.bytes
  have hr := B.returns
  have hts := atoms_spec (ws := wsX6_filter) B.pre
  have hown : s.vm.findClass RX6 = some m.cls := findClass_of_methodNamed B.named
  have hlocks := B.notSynchronized
  have hinX6 : ∀ w ∈ u_ws RX6 TX6 5, w ∈ wsX6_filter := by decide +kernel
  have hf18 := hts (.fieldLink RX6 18 "PulseSigns" "sieve" "LPulseSigns$Filter;") (by decide +kernel)
  subst hsz
  have hD := hD0.self (sz := s.heap.size)
  generalize hAe : va_A (PSW cI cS h sa sg tg tr ln fo ft fl fn ro tp tq per rea rn wo tn td rw wn od sr) s.heap.size = A at hD ⊢
  have hA : ∀ q : Nat, s.heap.size ≤ q → A q := fun q h => by rw [← hAe]; exact Or.inr h
  have hS : va_S A s.heap s.heap [] := va_S.rf
  have hP : va_P D vwCl (PSW cI cS h sa sg tg tr ln fo ft fl fn ro tp tq per rea rn wo tn td rw wn od sr) s.heap := hP
  have hKi := hK.sub [0] (tys' := [(cI, .int)]) rfl
  have hl := lv_entry ([.ref h, .int xn]) (n := 2) (Nat.le_of_ble_eq_true rfl)
  rw [lg_entry_eq]
  generalize (lg_sl ([.ref h, .int xn]) ++ List.replicate (2 - (lg_sl ([.ref h, .int xn])).length) Slot.unset).toArray = ls at hl ⊢
  refine w_Q (fun Q hQ => ?_)
  have hl : lv_has ls 2 [(0, .ref h), (1, .int xn)] := hl
  rw [fX6_filter] at hF
  refine lv_iload_n hx hb dX6_filter_0 rfl (lv_at hl 1 rfl) ?_
  refine lv_iconst (v := 1) hx hb dX6_filter_1 (by decide) ?_
  refine lv_bipush (v := 24) hx hb dX6_filter_2 (by decide) ?_
  have hPc : va_P D vwCl [] s.heap := (pnil _ _ _)
  refine cs_i (va_runS (As := [.int xn, .int 1, .int 24]) (rest := []) ⟨hx, hb, hml, hown, hts⟩ (c_X6_within l D cI xn 1 24 ) (va_cwS 3 hts gX6_filter_X6_within rfl rfl rfl (by decide +kernel) ⟨(Nat.le_of_ble_eq_true rfl), (Nat.le_of_ble_eq_true rfl)⟩) (ro_pre hPc hKi) rfl rfl hl.1 rfl (lv_room (Nat.le_of_ble_eq_true rfl)) dX6_filter_4 ⟨Nat.zero_le _, Nat.zero_le _⟩) ?_
  refine lv_if_ne (tgt := 13) hx hb dX6_filter_7 (by decide) (fun c7 => ?_) (fun c7 => ?_)
  · rw [if_neg c7] at hF
    obtain ⟨nn, hnn1, hnn, rfl⟩ := wt_nat (a := 1) (b := 24) c7 (by omega)
    have e_nn : (nI nn).toNatClampNeg = nn := nI_clamp (by omega)
    try simp only [e_nn] at hF
    refine lv_aload_n hx hb dX6_filter_13 rfl (lv_at hl 0 rfl) ?_
    refine va_get (D := D) (ci := 4) (v := .ref fo) (C := RX6) (T := TX6) (N := 5) hx hb hts hinX6 hown hK.1 hP 0 rfl rfl 1 (by decide) hf18 (fun _ h9 => h9) rfl dX6_filter_14 ?_
    refine lv_iload_n hx hb dX6_filter_17 rfl (lv_at hl 1 rfl) ?_
    have hPc : va_P D vwCl [(fo, .inr (0, [.ref ft, .int (nI fn)])), (ft, .inl (cI, 24, .inl fl))] s.heap := (pcons (i := 14) hP rfl (pcons (i := 15) hP rfl (pnil _ _ _)))
    have hDc : va_D A [(fo, .inr (0, [.ref ft, .int (nI fn)])), (ft, .inl (cI, 24, .inl fl))] := hD.sub [14, 15] (by simp [va_nd] <;> omega) rfl
    refine cx_v (va_runV (As := [.int (nI nn)]) (rest := []) ⟨hx, hb, hml, hown, hts⟩ (c_X1_reset l D cI s.heap.size fo ft fl fn nn (by first | assumption | omega)) (cwV 1 hts gX6_filter_X1_reset rfl rfl rfl (by decide +kernel) ⟨(Nat.le_of_ble_eq_true rfl), (Nat.le_of_ble_eq_true rfl)⟩) (wr_preV hPc hDc hKi rfl (q0 := 0) rfl) rfl rfl hl.1 rfl (lv_room (Nat.le_of_ble_eq_true rfl)) dX6_filter_18 ⟨Nat.zero_le _, Nat.zero_le _⟩) hP hD hS hA [14, 15] rfl [fo, ft] rfl rfl (fun H locs hP hD hS => ?_)
    have hP : va_P D vwCl (PSW cI cS h sa sg tg tr ln fo ft ((fX1_reset fl nn).2) ((fX1_reset fl nn).1) ro tp tq per rea rn wo tn td rw wn od sr) H := hP
    have hD : va_D A (PSW cI cS h sa sg tg tr ln fo ft ((fX1_reset fl nn).2) ((fX1_reset fl nn).1) ro tp tq per rea rn wo tn td rw wn od sr) := hD
    refine lv_iload_n hx hb dX6_filter_21 rfl (lv_at hl 1 rfl) ?_
    subst hF
    subst hQ
    exact W.iret (v := nI nn) hx hb hr (fun u9 ht hW => ⟨⟨_, (), rfl, rfl, by rw [← ht] at hP; exact hP⟩, hS.F ht⟩) hS.2.2 dX6_filter_22
  · rw [if_pos c7] at hF
    refine lv_bipush (v := (-102)) hx hb dX6_filter_10 (by decide) ?_
    subst hF
    subst hQ
    exact W.iret (v := (-102)) hx hb hr (fun u9 ht hW => ⟨⟨_, (), rfl, rfl, by rw [← ht] at hP; exact hP⟩, hS.F ht⟩) hS.2.2 dX6_filter_12
def fX6_weight (fl : Nat → Int32) (fn : Nat) (xj : Int32) (xv : Int32) : Int32 × (Nat → Int32) := (if (fX6_within xj 0 ((nI fn) - 1)) = 0 then ((-1000), fl) else (if (fX6_within xv (-50) 50) = 0 then ((-1001), fl) else (fl (xj.toNatClampNeg), upd fl (xj.toNatClampNeg) xv)))
abbrev rmX6_weight : Room := { frames := 1, cells := 0, slots := 0, locals := 22 }
set_option maxHeartbeats 4000000 in
set_option maxRecDepth 100000 in
theorem c_X6_weight (l : Launch) (D : va_G) (cI : ClassId) (cS : ClassId) (sz : Nat) (h : Nat) (sa : Nat) (sg : Nat → Nat) (tg : Nat → Nat) (tr : Nat → Nat → Int32) (ln : Nat → Nat) (fo : Nat) (ft : Nat) (fl : Nat → Int32) (fn : Nat) (ro : Nat) (tp : Nat) (tq : Nat) (per : Nat → Int32) (rea : Nat → Int32) (rn : Nat) (wo : Nat) (tn : Nat) (td : Nat) (rw : Nat → Int32) (wn : Nat) (od : Nat → Int32) (sr : Nat) (xj : Int32) (xv : Int32) (hfn : 1 ≤ fn ∧ fn ≤ 24) : Met l yX6_weight wsX6_weight rmX6_weight (va_Pc [.ref h, .int xj, .int xv] (wrP D [(cI, .int), (cS, .object RX5)] (PSW cI cS h sa sg tg tr ln fo ft fl fn ro tp tq per rea rn wo tn td rw wn od sr) sz)) (va_Qi (fun r9 (_ : Unit) => r9 = (fX6_weight fl fn xj xv).1) (fun _ u9 => va_P D vwCl (PSW cI cS h sa sg tg tr ln fo ft ((fX6_weight fl fn xj xv).2) fn ro tp tq per rea rn wo tn td rw wn od sr) u9.heap) (va_A (PSW cI cS h sa sg tg tr ln fo ft fl fn ro tp tq per rea rn wo tn td rw wn od sr) sz)) 0 0 (va_A (PSW cI cS h sa sg tg tr ln fo ft fl fn ro tp tq per rea rn wo tn td rw wn od sr) sz) := by
  generalize hF : fX6_weight fl fn xj xv = T
  refine Met.ofW (cc := cX6_weight) (maxL := 4) (ret := (some .int)) (by decide) rfl ?_
  intro p e s m args below meth c s₁ B hml hv
  obtain ⟨rfl, hsz, hP, hK, hD0⟩ := hv
  have hx := B.exec
  have hb := B.bytes
  have hr := B.returns
  have hts := atoms_spec (ws := wsX6_weight) B.pre
  have hown : s.vm.findClass RX6 = some m.cls := findClass_of_methodNamed B.named
  have hlocks := B.notSynchronized
  have hinX1 : ∀ w ∈ u_ws RX1 TX1 2, w ∈ wsX6_weight := by decide +kernel
  have hinX6 : ∀ w ∈ u_ws RX6 TX6 5, w ∈ wsX6_weight := by decide +kernel
  have hf18 := hts (.fieldLink RX6 18 "PulseSigns" "sieve" "LPulseSigns$Filter;") (by decide +kernel)
  have hf108 := hts (.fieldLink RX6 108 "PulseSigns$Filter" "length" "I") (by decide +kernel)
  have hf109 := hts (.fieldLink RX6 109 "PulseSigns$Filter" "numbers" "[I") (by decide +kernel)
  subst hsz
  have hD := hD0.self (sz := s.heap.size)
  generalize hAe : va_A (PSW cI cS h sa sg tg tr ln fo ft fl fn ro tp tq per rea rn wo tn td rw wn od sr) s.heap.size = A at hD ⊢
  have hA : ∀ q : Nat, s.heap.size ≤ q → A q := fun q h => by rw [← hAe]; exact Or.inr h
  have hS : va_S A s.heap s.heap [] := va_S.rf
  have hP : va_P D vwCl (PSW cI cS h sa sg tg tr ln fo ft fl fn ro tp tq per rea rn wo tn td rw wn od sr) s.heap := hP
  have hKi := hK.sub [0] (tys' := [(cI, .int)]) rfl
  have hl := lv_entry ([.ref h, .int xj, .int xv]) (n := 4) (Nat.le_of_ble_eq_true rfl)
  rw [lg_entry_eq]
  generalize (lg_sl ([.ref h, .int xj, .int xv]) ++ List.replicate (4 - (lg_sl ([.ref h, .int xj, .int xv])).length) Slot.unset).toArray = ls at hl ⊢
  refine w_Q (fun Q hQ => ?_)
  have hl : lv_has ls 4 [(0, .ref h), (1, .int xj), (2, .int xv)] := hl
  rw [fX6_weight] at hF
  refine lv_iload_n hx hb dX6_weight_0 rfl (lv_at hl 1 rfl) ?_
  refine lv_iconst (v := 0) hx hb dX6_weight_1 (by decide) ?_
  refine lv_aload_n hx hb dX6_weight_2 rfl (lv_at hl 0 rfl) ?_
  refine va_get (D := D) (ci := 4) (v := .ref fo) (C := RX6) (T := TX6) (N := 5) hx hb hts hinX6 hown hK.1 hP 0 rfl rfl 1 (by decide) hf18 (fun _ h9 => h9) rfl dX6_weight_3 ?_
  refine va_get (D := D) (ci := 0) (v := .int (nI fn)) (C := RX1) (T := TX1) (N := 2) hx hb hts hinX1 hown hK.1 hP 14 rfl rfl 1 (by decide) hf108 (fun _ h9 => h9) rfl dX6_weight_6 ?_
  refine lv_iconst (v := 1) hx hb dX6_weight_9 (by decide) ?_
  refine lv_isub hx hb dX6_weight_10 ?_
  have hPc : va_P D vwCl [] s.heap := (pnil _ _ _)
  refine cs_i (va_runS (As := [.int xj, .int 0, .int ((nI fn) - 1)]) (rest := []) ⟨hx, hb, hml, hown, hts⟩ (c_X6_within l D cI xj 0 ((nI fn) - 1) ) (va_cwS 3 hts gX6_weight_X6_within rfl rfl rfl (by decide +kernel) ⟨(Nat.le_of_ble_eq_true rfl), (Nat.le_of_ble_eq_true rfl)⟩) (ro_pre hPc hKi) rfl rfl hl.1 rfl (lv_room (Nat.le_of_ble_eq_true rfl)) dX6_weight_11 ⟨Nat.zero_le _, Nat.zero_le _⟩) ?_
  refine lv_if_ne (tgt := 21) hx hb dX6_weight_14 (by decide) (fun c14 => ?_) (fun c14 => ?_)
  · rw [if_neg c14] at hF
    obtain ⟨jn, hjn, rfl⟩ := wt_m1 c14 (by omega)
    have e_jn : (nI jn).toNatClampNeg = jn := nI_clamp (by omega)
    try simp only [e_jn] at hF
    refine lv_iload_n hx hb dX6_weight_21 rfl (lv_at hl 2 rfl) ?_
    refine lv_bipush (v := (-50)) hx hb dX6_weight_22 (by decide) ?_
    refine lv_bipush (v := 50) hx hb dX6_weight_24 (by decide) ?_
    have hPc : va_P D vwCl [] s.heap := (pnil _ _ _)
    refine cs_i (va_runS (As := [.int xv, .int (-50), .int 50]) (rest := []) ⟨hx, hb, hml, hown, hts⟩ (c_X6_within l D cI xv (-50) 50 ) (va_cwS 3 hts gX6_weight_X6_within rfl rfl rfl (by decide +kernel) ⟨(Nat.le_of_ble_eq_true rfl), (Nat.le_of_ble_eq_true rfl)⟩) (ro_pre hPc hKi) rfl rfl hl.1 rfl (lv_room (Nat.le_of_ble_eq_true rfl)) dX6_weight_26 ⟨Nat.zero_le _, Nat.zero_le _⟩) ?_
    refine lv_if_ne (tgt := 36) hx hb dX6_weight_29 (by decide) (fun c29 => ?_) (fun c29 => ?_)
    · rw [if_neg c29] at hF
      refine lv_aload_n hx hb dX6_weight_36 rfl (lv_at hl 0 rfl) ?_
      refine va_get (D := D) (ci := 4) (v := .ref fo) (C := RX6) (T := TX6) (N := 5) hx hb hts hinX6 hown hK.1 hP 0 rfl rfl 1 (by decide) hf18 (fun _ h9 => h9) rfl dX6_weight_37 ?_
      refine va_get (D := D) (ci := 0) (v := .ref ft) (C := RX1) (T := TX1) (N := 2) hx hb hts hinX1 hown hK.1 hP 14 rfl rfl 0 (by decide) hf109 (fun _ h9 => h9) rfl dX6_weight_40 ?_
      refine lv_iload_n hx hb dX6_weight_43 rfl (lv_at hl 1 rfl) ?_
      refine w_ald hx hb hK hP 15 0 rfl rfl (jn) rfl (by omega) (by omega) dX6_weight_44 ?_
      refine lv_istore_n (lv' := [(3, .int (fl jn)), (0, .ref h), (1, .int (nI jn)), (2, .int xv)]) hx hb dX6_weight_45 rfl hl (by decide) rfl (fun ls hl => ?_)
      refine lv_aload_n hx hb dX6_weight_46 rfl (lv_at hl 1 rfl) ?_
      refine va_get (D := D) (ci := 4) (v := .ref fo) (C := RX6) (T := TX6) (N := 5) hx hb hts hinX6 hown hK.1 hP 0 rfl rfl 1 (by decide) hf18 (fun _ h9 => h9) rfl dX6_weight_47 ?_
      refine va_get (D := D) (ci := 0) (v := .ref ft) (C := RX1) (T := TX1) (N := 2) hx hb hts hinX1 hown hK.1 hP 14 rfl rfl 0 (by decide) hf109 (fun _ h9 => h9) rfl dX6_weight_50 ?_
      refine lv_iload_n hx hb dX6_weight_53 rfl (lv_at hl 2 rfl) ?_
      refine lv_iload_n hx hb dX6_weight_54 rfl (lv_at hl 3 rfl) ?_
      refine w_ast hx hb hK hP hD hS 15 0 rfl rfl (jn) rfl (by omega) (by omega) dX6_weight_55 (fun H locs hP hD hS => ?_)
      have hP : va_P D vwCl (PSW cI cS h sa sg tg tr ln fo ft (upd fl jn xv) fn ro tp tq per rea rn wo tn td rw wn od sr) H := hP
      have hD : va_D A (PSW cI cS h sa sg tg tr ln fo ft (upd fl jn xv) fn ro tp tq per rea rn wo tn td rw wn od sr) := hD
      refine lv_iload_n hx hb dX6_weight_56 rfl (lv_at hl 0 rfl) ?_
      subst hF
      subst hQ
      exact W.iret (v := fl jn) hx hb hr (fun u9 ht hW => ⟨⟨_, (), rfl, rfl, by rw [← ht] at hP; exact hP⟩, hS.F ht⟩) hS.2.2 dX6_weight_57
    · rw [if_pos c29] at hF
      refine lv_sipush (v := (-1001)) hx hb dX6_weight_32 (by decide) ?_
      subst hF
      subst hQ
      exact W.iret (v := (-1001)) hx hb hr (fun u9 ht hW => ⟨⟨_, (), rfl, rfl, by rw [← ht] at hP; exact hP⟩, hS.F ht⟩) hS.2.2 dX6_weight_35
  · rw [if_pos c14] at hF
    refine lv_sipush (v := (-1000)) hx hb dX6_weight_17 (by decide) ?_
    subst hF
    subst hQ
    exact W.iret (v := (-1000)) hx hb hr (fun u9 ht hW => ⟨⟨_, (), rfl, rfl, by rw [← ht] at hP; exact hP⟩, hS.F ht⟩) hS.2.2 dX6_weight_20
def fX6_own (tr : Nat → Nat → Int32) (ln : Nat → Nat) (fl : Nat → Int32) (fn : Nat) (xc : Int32) : Int32 × (Nat → Int32) × Nat := (if (fX6_isSign xc) = 0 then ((-101), fl, fn) else (nI ((fX1_matchTo fl (tr (xc.toNatClampNeg)) (ln (xc.toNatClampNeg))).1), (fX1_matchTo fl (tr (xc.toNatClampNeg)) (ln (xc.toNatClampNeg))).2, (fX1_matchTo fl (tr (xc.toNatClampNeg)) (ln (xc.toNatClampNeg))).1))
abbrev rmX6_own : Room := { frames := 2, cells := 0, slots := 0, locals := 44 }
set_option maxHeartbeats 4000000 in
set_option maxRecDepth 100000 in
theorem c_X6_own (l : Launch) (D : va_G) (cI : ClassId) (cS : ClassId) (sz : Nat) (h : Nat) (sa : Nat) (sg : Nat → Nat) (tg : Nat → Nat) (tr : Nat → Nat → Int32) (ln : Nat → Nat) (fo : Nat) (ft : Nat) (fl : Nat → Int32) (fn : Nat) (ro : Nat) (tp : Nat) (tq : Nat) (per : Nat → Int32) (rea : Nat → Int32) (rn : Nat) (wo : Nat) (tn : Nat) (td : Nat) (rw : Nat → Int32) (wn : Nat) (od : Nat → Int32) (sr : Nat) (xc : Int32) (hln : ∀ c, c < 6 → 1 ≤ ln c ∧ ln c ≤ 16) : Met l yX6_own wsX6_own rmX6_own (va_Pc [.ref h, .int xc] (wrP D [(cI, .int), (cS, .object RX5)] (PSW cI cS h sa sg tg tr ln fo ft fl fn ro tp tq per rea rn wo tn td rw wn od sr) sz)) (va_Qi (fun r9 (_ : Unit) => r9 = (fX6_own tr ln fl fn xc).1) (fun _ u9 => va_P D vwCl (PSW cI cS h sa sg tg tr ln fo ft ((fX6_own tr ln fl fn xc).2.1) ((fX6_own tr ln fl fn xc).2.2) ro tp tq per rea rn wo tn td rw wn od sr) u9.heap) (va_A (PSW cI cS h sa sg tg tr ln fo ft fl fn ro tp tq per rea rn wo tn td rw wn od sr) sz)) 0 0 (va_A (PSW cI cS h sa sg tg tr ln fo ft fl fn ro tp tq per rea rn wo tn td rw wn od sr) sz) := by
  generalize hF : fX6_own tr ln fl fn xc = T
  refine Met.ofW (cc := cX6_own) (maxL := 2) (ret := (some .int)) (by decide) rfl ?_
  intro p e s m args below meth c s₁ B hml hv
  obtain ⟨rfl, hsz, hP, hK, hD0⟩ := hv
  have hx := B.exec
  have hb := B.bytes
  have hr := B.returns
  have hts := atoms_spec (ws := wsX6_own) B.pre
  have hown : s.vm.findClass RX6 = some m.cls := findClass_of_methodNamed B.named
  have hlocks := B.notSynchronized
  have hinX1 : ∀ w ∈ u_ws RX1 TX1 2, w ∈ wsX6_own := by decide +kernel
  have hinX6 : ∀ w ∈ u_ws RX6 TX6 5, w ∈ wsX6_own := by decide +kernel
  have hf18 := hts (.fieldLink RX6 18 "PulseSigns" "sieve" "LPulseSigns$Filter;") (by decide +kernel)
  have hf11 := hts (.fieldLink RX6 11 "PulseSigns" "signs" "[LPulseSigns$Sign;") (by decide +kernel)
  have hf108 := hts (.fieldLink RX6 108 "PulseSigns$Filter" "length" "I") (by decide +kernel)
  subst hsz
  have hD := hD0.self (sz := s.heap.size)
  generalize hAe : va_A (PSW cI cS h sa sg tg tr ln fo ft fl fn ro tp tq per rea rn wo tn td rw wn od sr) s.heap.size = A at hD ⊢
  have hA : ∀ q : Nat, s.heap.size ≤ q → A q := fun q h => by rw [← hAe]; exact Or.inr h
  have hS : va_S A s.heap s.heap [] := va_S.rf
  have hP : va_P D vwCl (PSW cI cS h sa sg tg tr ln fo ft fl fn ro tp tq per rea rn wo tn td rw wn od sr) s.heap := hP
  have hKi := hK.sub [0] (tys' := [(cI, .int)]) rfl
  have hl := lv_entry ([.ref h, .int xc]) (n := 2) (Nat.le_of_ble_eq_true rfl)
  rw [lg_entry_eq]
  generalize (lg_sl ([.ref h, .int xc]) ++ List.replicate (2 - (lg_sl ([.ref h, .int xc])).length) Slot.unset).toArray = ls at hl ⊢
  refine w_Q (fun Q hQ => ?_)
  have hl : lv_has ls 2 [(0, .ref h), (1, .int xc)] := hl
  rw [fX6_own] at hF
  refine lv_iload_n hx hb dX6_own_0 rfl (lv_at hl 1 rfl) ?_
  have hPc : va_P D vwCl [] s.heap := (pnil _ _ _)
  refine cs_i (va_runS (As := [.int xc]) (rest := []) ⟨hx, hb, hml, hown, hts⟩ (c_X6_isSign l D cI xc ) (va_cwS 1 hts gX6_own_X6_isSign rfl rfl rfl (by decide +kernel) ⟨(Nat.le_of_ble_eq_true rfl), (Nat.le_of_ble_eq_true rfl)⟩) (ro_pre hPc hKi) rfl rfl hl.1 rfl (lv_room (Nat.le_of_ble_eq_true rfl)) dX6_own_1 ⟨Nat.zero_le _, Nat.zero_le _⟩) ?_
  refine lv_if_ne (tgt := 10) hx hb dX6_own_4 (by decide) (fun c4 => ?_) (fun c4 => ?_)
  · rw [if_neg c4] at hF
    obtain ⟨cn, hcn, rfl⟩ := sg_nat c4
    have h16cn := hln cn (by omega)
    have e_cn : (nI cn).toNatClampNeg = cn := nI_clamp (by omega)
    try simp only [e_cn] at hF
    refine lv_aload_n hx hb dX6_own_10 rfl (lv_at hl 0 rfl) ?_
    refine va_get (D := D) (ci := 4) (v := .ref fo) (C := RX6) (T := TX6) (N := 5) hx hb hts hinX6 hown hK.1 hP 0 rfl rfl 1 (by decide) hf18 (fun _ h9 => h9) rfl dX6_own_11 ?_
    refine lv_aload_n hx hb dX6_own_14 rfl (lv_at hl 0 rfl) ?_
    refine va_get (D := D) (ci := 4) (v := .ref sa) (C := RX6) (T := TX6) (N := 5) hx hb hts hinX6 hown hK.1 hP 0 rfl rfl 0 (by decide) hf11 (fun _ h9 => h9) rfl dX6_own_15 ?_
    refine lv_iload_n hx hb dX6_own_18 rfl (lv_at hl 1 rfl) ?_
    refine w_aref hx hb hK hP 1 1 rfl rfl cn rfl (by omega) (by omega) rfl dX6_own_19 ?_
    have hPc : va_P D vwCl [(fo, .inr (0, [.ref ft, .int (nI fn)])), (ft, .inl (cI, 24, .inl fl)), (sg cn, .inr (3, [.ref (tg cn), .int (nI (ln cn))])), (tg cn, .inl (cI, 16, .inl (tr cn)))] s.heap := (pcons (i := 14) hP rfl (pcons (i := 15) hP rfl (pcons (i := (2 + 2 * cn)) hP (psw_s (by omega)) (pcons (i := (3 + 2 * cn)) hP (psw_t (by omega)) (pnil _ _ _)))))
    have hDc : va_D A [(fo, .inr (0, [.ref ft, .int (nI fn)])), (ft, .inl (cI, 24, .inl fl)), (sg cn, .inr (3, [.ref (tg cn), .int (nI (ln cn))])), (tg cn, .inl (cI, 16, .inl (tr cn)))] := hD.sub [14, 15, (2 + 2 * cn), (3 + 2 * cn)] (by simp [va_nd] <;> omega) (pmapc rfl (pmapc rfl (pmapc (psw_s (by omega)) (pmapc (psw_t (by omega)) pmapn))))
    refine cx_v (va_runV (As := [.ref (sg cn)]) (rest := []) ⟨hx, hb, hml, hown, hts⟩ (c_X1_matchTo l D cI s.heap.size fo ft fl fn (sg cn) (tg cn) (tr cn) (ln cn) (by first | assumption | omega)) (cwV 1 hts gX6_own_X1_matchTo rfl rfl rfl (by decide +kernel) ⟨(Nat.le_of_ble_eq_true rfl), (Nat.le_of_ble_eq_true rfl)⟩) (wr_preV hPc hDc hKi rfl (q0 := 0) rfl) rfl rfl hl.1 rfl (lv_room (Nat.le_of_ble_eq_true rfl)) dX6_own_20 ⟨Nat.zero_le _, Nat.zero_le _⟩) hP hD hS hA [14, 15, (2 + 2 * cn), (3 + 2 * cn)] (pmapc rfl (pmapc rfl (pmapc (psw_s (by omega)) (pmapc (psw_t (by omega)) pmapn)))) [fo, ft, sg cn, tg cn] rfl rfl (fun H locs hP hD hS => ?_)
    rw [psw_match (by omega)] at hP hD
    have hP : va_P D vwCl (PSW cI cS h sa sg tg tr ln fo ft ((fX1_matchTo fl (tr cn) (ln cn)).2) ((fX1_matchTo fl (tr cn) (ln cn)).1) ro tp tq per rea rn wo tn td rw wn od sr) H := hP
    have hD : va_D A (PSW cI cS h sa sg tg tr ln fo ft ((fX1_matchTo fl (tr cn) (ln cn)).2) ((fX1_matchTo fl (tr cn) (ln cn)).1) ro tp tq per rea rn wo tn td rw wn od sr) := hD
    refine lv_aload_n hx hb dX6_own_23 rfl (lv_at hl 0 rfl) ?_
    refine va_get (D := D) (ci := 4) (v := .ref fo) (C := RX6) (T := TX6) (N := 5) hx hb hts hinX6 hown hK.1 hP 0 rfl rfl 1 (by decide) hf18 (fun _ h9 => h9) rfl dX6_own_24 ?_
    refine va_get (D := D) (ci := 0) (v := .int (nI ((fX1_matchTo fl (tr cn) (ln cn)).1))) (C := RX1) (T := TX1) (N := 2) hx hb hts hinX1 hown hK.1 hP 14 rfl rfl 1 (by decide) hf108 (fun _ h9 => h9) rfl dX6_own_27 ?_
    subst hF
    subst hQ
    exact W.iret (v := nI ((fX1_matchTo fl (tr cn) (ln cn)).1)) hx hb hr (fun u9 ht hW => ⟨⟨_, (), rfl, rfl, by rw [← ht] at hP; exact hP⟩, hS.F ht⟩) hS.2.2 dX6_own_30
  · rw [if_pos c4] at hF
    refine lv_bipush (v := (-101)) hx hb dX6_own_7 (by decide) ?_
    subst hF
    subst hQ
    exact W.iret (v := (-101)) hx hb hr (fun u9 ht hW => ⟨⟨_, (), rfl, rfl, by rw [← ht] at hP; exact hP⟩, hS.F ht⟩) hS.2.2 dX6_own_9
def fX6_answer (tr : Nat → Nat → Int32) (ln : Nat → Nat) (fl : Nat → Int32) (fn : Nat) (xc : Int32) (xk : Int32) (xp : Int32) : Int32 := (if (fX6_isSign xc) = 0 then (-100000) else (if xk < 0 then (-100001) else (if (fX6_isPart xp) = 0 then (-100001) else fX1_answerPart fl fn (tr (xc.toNatClampNeg)) (ln (xc.toNatClampNeg)) xk xp)))
abbrev rmX6_answer : Room := { frames := 3, cells := 0, slots := 0, locals := 68 }
set_option maxHeartbeats 4000000 in
set_option maxRecDepth 100000 in
theorem c_X6_answer (l : Launch) (D : va_G) (cI : ClassId) (cS : ClassId) (h : Nat) (sa : Nat) (sg : Nat → Nat) (tg : Nat → Nat) (tr : Nat → Nat → Int32) (ln : Nat → Nat) (fo : Nat) (ft : Nat) (fl : Nat → Int32) (fn : Nat) (ro : Nat) (tp : Nat) (tq : Nat) (per : Nat → Int32) (rea : Nat → Int32) (rn : Nat) (wo : Nat) (tn : Nat) (td : Nat) (rw : Nat → Int32) (wn : Nat) (od : Nat → Int32) (sr : Nat) (xc : Int32) (xk : Int32) (xp : Int32) (hln : ∀ c, c < 6 → 1 ≤ ln c ∧ ln c ≤ 16) (hfn : 1 ≤ fn ∧ fn ≤ 24) : Met l yX6_answer wsX6_answer rmX6_answer (va_Pc [.ref h, .int xc, .int xk, .int xp] (roP D [(cI, .int), (cS, .object RX5)] (PSW cI cS h sa sg tg tr ln fo ft fl fn ro tp tq per rea rn wo tn td rw wn od sr))) (vp_Si (fun r9 => r9 = fX6_answer tr ln fl fn xc xk xp)) 0 0 (fun _ => False) := by
  generalize hF : fX6_answer tr ln fl fn xc xk xp = T
  refine Met.ofW (cc := cX6_answer) (maxL := 4) (ret := (some .int)) (by decide) rfl ?_
  intro p e s m args below meth c s₁ B hml hv
  obtain ⟨rfl, hP, hK⟩ := hv
  have hx := B.exec
  have hb := B.bytes
  have hr := B.returns
  have hts := atoms_spec (ws := wsX6_answer) B.pre
  have hown : s.vm.findClass RX6 = some m.cls := findClass_of_methodNamed B.named
  have hlocks := B.notSynchronized
  have hinX6 : ∀ w ∈ u_ws RX6 TX6 5, w ∈ wsX6_answer := by decide +kernel
  have hcst116 := hts (.constant RX6 116 (-100001)) (by decide +kernel)
  have hf18 := hts (.fieldLink RX6 18 "PulseSigns" "sieve" "LPulseSigns$Filter;") (by decide +kernel)
  have hf11 := hts (.fieldLink RX6 11 "PulseSigns" "signs" "[LPulseSigns$Sign;") (by decide +kernel)
  have hcst115 := hts (.constant RX6 115 (-100000)) (by decide +kernel)
  have hKi := hK.sub [0] (tys' := [(cI, .int)]) rfl
  have hl := lv_entry ([.ref h, .int xc, .int xk, .int xp]) (n := 4) (Nat.le_of_ble_eq_true rfl)
  rw [lg_entry_eq]
  generalize (lg_sl ([.ref h, .int xc, .int xk, .int xp]) ++ List.replicate (4 - (lg_sl ([.ref h, .int xc, .int xk, .int xp])).length) Slot.unset).toArray = ls at hl ⊢
  refine w_Q (fun Q hQ => ?_)
  have hl : lv_has ls 4 [(0, .ref h), (1, .int xc), (2, .int xk), (3, .int xp)] := hl
  rw [fX6_answer] at hF
  refine lv_iload_n hx hb dX6_answer_0 rfl (lv_at hl 1 rfl) ?_
  have hPc : va_P D vwCl [] s.heap := (pnil _ _ _)
  refine cs_i (va_runS (As := [.int xc]) (rest := []) ⟨hx, hb, hml, hown, hts⟩ (c_X6_isSign l D cI xc ) (va_cwS 1 hts gX6_answer_X6_isSign rfl rfl rfl (by decide +kernel) ⟨(Nat.le_of_ble_eq_true rfl), (Nat.le_of_ble_eq_true rfl)⟩) (ro_pre hPc hKi) rfl rfl hl.1 rfl (lv_room (Nat.le_of_ble_eq_true rfl)) dX6_answer_1 ⟨Nat.zero_le _, Nat.zero_le _⟩) ?_
  refine lv_if_ne (tgt := 10) hx hb dX6_answer_4 (by decide) (fun c4 => ?_) (fun c4 => ?_)
  · rw [if_neg c4] at hF
    obtain ⟨cn, hcn, rfl⟩ := sg_nat c4
    have h16cn := hln cn (by omega)
    have e_cn : (nI cn).toNatClampNeg = cn := nI_clamp (by omega)
    try simp only [e_cn] at hF
    refine lv_iload_n hx hb dX6_answer_10 rfl (lv_at hl 2 rfl) ?_
    refine lv_if_lt (tgt := 21) hx hb dX6_answer_11 (by decide) (fun c11 => ?_) (fun c11 => ?_)
    · rw [if_pos c11] at hF
      refine lv_ldc (v := (-100001)) hx hb hown hcst116 dX6_answer_21 ?_
      subst hQ
      exact W.iret (v := (-100001)) hx hb hr (fun u9 ht hW => ⟨_, rfl, hF, ht⟩) (fun q hq => by cases hq) dX6_answer_23
    · rw [if_neg c11] at hF
      refine lv_iload_n hx hb dX6_answer_14 rfl (lv_at hl 3 rfl) ?_
      have hPc : va_P D vwCl [] s.heap := (pnil _ _ _)
      refine cs_i (va_runS (As := [.int xp]) (rest := []) ⟨hx, hb, hml, hown, hts⟩ (c_X6_isPart l D cI xp ) (va_cwS 1 hts gX6_answer_X6_isPart rfl rfl rfl (by decide +kernel) ⟨(Nat.le_of_ble_eq_true rfl), (Nat.le_of_ble_eq_true rfl)⟩) (ro_pre hPc hKi) rfl rfl hl.1 rfl (lv_room (Nat.le_of_ble_eq_true rfl)) dX6_answer_15 ⟨Nat.zero_le _, Nat.zero_le _⟩) ?_
      refine lv_if_ne (tgt := 24) hx hb dX6_answer_18 (by decide) (fun c18 => ?_) (fun c18 => ?_)
      · rw [if_neg c18] at hF
        refine lv_aload_n hx hb dX6_answer_24 rfl (lv_at hl 0 rfl) ?_
        refine va_get (D := D) (ci := 4) (v := .ref fo) (C := RX6) (T := TX6) (N := 5) hx hb hts hinX6 hown hK.1 hP 0 rfl rfl 1 (by decide) hf18 (fun _ h9 => h9) rfl dX6_answer_25 ?_
        refine lv_aload_n hx hb dX6_answer_28 rfl (lv_at hl 0 rfl) ?_
        refine va_get (D := D) (ci := 4) (v := .ref sa) (C := RX6) (T := TX6) (N := 5) hx hb hts hinX6 hown hK.1 hP 0 rfl rfl 0 (by decide) hf11 (fun _ h9 => h9) rfl dX6_answer_29 ?_
        refine lv_iload_n hx hb dX6_answer_32 rfl (lv_at hl 1 rfl) ?_
        refine w_aref hx hb hK hP 1 1 rfl rfl cn rfl (by omega) (by omega) rfl dX6_answer_33 ?_
        refine lv_iload_n hx hb dX6_answer_34 rfl (lv_at hl 2 rfl) ?_
        refine lv_iload_n hx hb dX6_answer_35 rfl (lv_at hl 3 rfl) ?_
        have hPc : va_P D vwCl [(fo, .inr (0, [.ref ft, .int (nI fn)])), (ft, .inl (cI, 24, .inl fl)), (sg cn, .inr (3, [.ref (tg cn), .int (nI (ln cn))])), (tg cn, .inl (cI, 16, .inl (tr cn)))] s.heap := (pcons (i := 14) hP rfl (pcons (i := 15) hP rfl (pcons (i := (2 + 2 * cn)) hP (psw_s (by omega)) (pcons (i := (3 + 2 * cn)) hP (psw_t (by omega)) (pnil _ _ _)))))
        refine cs_i (va_runV (As := [.ref (sg cn), .int xk, .int xp]) (rest := []) ⟨hx, hb, hml, hown, hts⟩ (c_X1_answerPart l D cI fo ft fl fn (sg cn) (tg cn) (tr cn) (ln cn) xk xp (by first | assumption | omega) (by first | assumption | omega) (by first | assumption | omega)) (cwV 3 hts gX6_answer_X1_answerPart rfl rfl rfl (by decide +kernel) ⟨(Nat.le_of_ble_eq_true rfl), (Nat.le_of_ble_eq_true rfl)⟩) (ro_preV hPc hKi rfl (q0 := 0) rfl) rfl rfl hl.1 rfl (lv_room (Nat.le_of_ble_eq_true rfl)) dX6_answer_36 ⟨Nat.zero_le _, Nat.zero_le _⟩) ?_
        subst hQ
        exact W.iret (v := fX1_answerPart fl fn (tr cn) (ln cn) xk xp) hx hb hr (fun u9 ht hW => ⟨_, rfl, hF, ht⟩) (fun q hq => by cases hq) dX6_answer_39
      · rw [if_pos c18] at hF
        refine lv_ldc (v := (-100001)) hx hb hown hcst116 dX6_answer_21 ?_
        subst hQ
        exact W.iret (v := (-100001)) hx hb hr (fun u9 ht hW => ⟨_, rfl, hF, ht⟩) (fun q hq => by cases hq) dX6_answer_23
  · rw [if_pos c4] at hF
    refine lv_ldc (v := (-100000)) hx hb hown hcst115 dX6_answer_7 ?_
    subst hQ
    exact W.iret (v := (-100000)) hx hb hr (fun u9 ht hW => ⟨_, rfl, hF, ht⟩) (fun q hq => by cases hq) dX6_answer_9
def fX6_greatest (tr : Nat → Nat → Int32) (ln : Nat → Nat) (fl : Nat → Int32) (fn : Nat) (xc : Int32) : Int32 := (if (fX6_isSign xc) = 0 then (-101) else fX1_greatestPlace fl fn (tr (xc.toNatClampNeg)) (ln (xc.toNatClampNeg)))
abbrev rmX6_greatest : Room := { frames := 5, cells := 0, slots := 0, locals := 117 }
set_option maxHeartbeats 4000000 in
set_option maxRecDepth 100000 in
theorem c_X6_greatest (l : Launch) (D : va_G) (cI : ClassId) (cS : ClassId) (h : Nat) (sa : Nat) (sg : Nat → Nat) (tg : Nat → Nat) (tr : Nat → Nat → Int32) (ln : Nat → Nat) (fo : Nat) (ft : Nat) (fl : Nat → Int32) (fn : Nat) (ro : Nat) (tp : Nat) (tq : Nat) (per : Nat → Int32) (rea : Nat → Int32) (rn : Nat) (wo : Nat) (tn : Nat) (td : Nat) (rw : Nat → Int32) (wn : Nat) (od : Nat → Int32) (sr : Nat) (xc : Int32) (hln : ∀ c, c < 6 → 1 ≤ ln c ∧ ln c ≤ 16) (hfn : 1 ≤ fn ∧ fn ≤ 24) : Met l yX6_greatest wsX6_greatest rmX6_greatest (va_Pc [.ref h, .int xc] (roP D [(cI, .int), (cS, .object RX5)] (PSW cI cS h sa sg tg tr ln fo ft fl fn ro tp tq per rea rn wo tn td rw wn od sr))) (vp_Si (fun r9 => r9 = fX6_greatest tr ln fl fn xc)) 0 0 (fun _ => False) := by
  generalize hF : fX6_greatest tr ln fl fn xc = T
  refine Met.ofW (cc := cX6_greatest) (maxL := 2) (ret := (some .int)) (by decide) rfl ?_
  intro p e s m args below meth c s₁ B hml hv
  obtain ⟨rfl, hP, hK⟩ := hv
  have hx := B.exec
  have hb := B.bytes
  have hr := B.returns
  have hts := atoms_spec (ws := wsX6_greatest) B.pre
  have hown : s.vm.findClass RX6 = some m.cls := findClass_of_methodNamed B.named
  have hlocks := B.notSynchronized
  have hinX6 : ∀ w ∈ u_ws RX6 TX6 5, w ∈ wsX6_greatest := by decide +kernel
  have hf18 := hts (.fieldLink RX6 18 "PulseSigns" "sieve" "LPulseSigns$Filter;") (by decide +kernel)
  have hf11 := hts (.fieldLink RX6 11 "PulseSigns" "signs" "[LPulseSigns$Sign;") (by decide +kernel)
  have hKi := hK.sub [0] (tys' := [(cI, .int)]) rfl
  have hl := lv_entry ([.ref h, .int xc]) (n := 2) (Nat.le_of_ble_eq_true rfl)
  rw [lg_entry_eq]
  generalize (lg_sl ([.ref h, .int xc]) ++ List.replicate (2 - (lg_sl ([.ref h, .int xc])).length) Slot.unset).toArray = ls at hl ⊢
  refine w_Q (fun Q hQ => ?_)
  have hl : lv_has ls 2 [(0, .ref h), (1, .int xc)] := hl
  rw [fX6_greatest] at hF
  refine lv_iload_n hx hb dX6_greatest_0 rfl (lv_at hl 1 rfl) ?_
  have hPc : va_P D vwCl [] s.heap := (pnil _ _ _)
  refine cs_i (va_runS (As := [.int xc]) (rest := []) ⟨hx, hb, hml, hown, hts⟩ (c_X6_isSign l D cI xc ) (va_cwS 1 hts gX6_greatest_X6_isSign rfl rfl rfl (by decide +kernel) ⟨(Nat.le_of_ble_eq_true rfl), (Nat.le_of_ble_eq_true rfl)⟩) (ro_pre hPc hKi) rfl rfl hl.1 rfl (lv_room (Nat.le_of_ble_eq_true rfl)) dX6_greatest_1 ⟨Nat.zero_le _, Nat.zero_le _⟩) ?_
  refine lv_if_eq (tgt := 23) hx hb dX6_greatest_4 (by decide) (fun c4 => ?_) (fun c4 => ?_)
  · rw [if_pos c4] at hF
    refine lv_bipush (v := (-101)) hx hb dX6_greatest_23 (by decide) ?_
    subst hQ
    exact W.iret (v := (-101)) hx hb hr (fun u9 ht hW => ⟨_, rfl, hF, ht⟩) (fun q hq => by cases hq) dX6_greatest_25
  · rw [if_neg c4] at hF
    obtain ⟨cn, hcn, rfl⟩ := sg_nat c4
    have h16cn := hln cn (by omega)
    have e_cn : (nI cn).toNatClampNeg = cn := nI_clamp (by omega)
    try simp only [e_cn] at hF
    refine lv_aload_n hx hb dX6_greatest_7 rfl (lv_at hl 0 rfl) ?_
    refine va_get (D := D) (ci := 4) (v := .ref fo) (C := RX6) (T := TX6) (N := 5) hx hb hts hinX6 hown hK.1 hP 0 rfl rfl 1 (by decide) hf18 (fun _ h9 => h9) rfl dX6_greatest_8 ?_
    refine lv_aload_n hx hb dX6_greatest_11 rfl (lv_at hl 0 rfl) ?_
    refine va_get (D := D) (ci := 4) (v := .ref sa) (C := RX6) (T := TX6) (N := 5) hx hb hts hinX6 hown hK.1 hP 0 rfl rfl 0 (by decide) hf11 (fun _ h9 => h9) rfl dX6_greatest_12 ?_
    refine lv_iload_n hx hb dX6_greatest_15 rfl (lv_at hl 1 rfl) ?_
    refine w_aref hx hb hK hP 1 1 rfl rfl cn rfl (by omega) (by omega) rfl dX6_greatest_16 ?_
    have hPc : va_P D vwCl [(fo, .inr (0, [.ref ft, .int (nI fn)])), (ft, .inl (cI, 24, .inl fl)), (sg cn, .inr (3, [.ref (tg cn), .int (nI (ln cn))])), (tg cn, .inl (cI, 16, .inl (tr cn)))] s.heap := (pcons (i := 14) hP rfl (pcons (i := 15) hP rfl (pcons (i := (2 + 2 * cn)) hP (psw_s (by omega)) (pcons (i := (3 + 2 * cn)) hP (psw_t (by omega)) (pnil _ _ _)))))
    refine cs_i (va_runV (As := [.ref (sg cn)]) (rest := []) ⟨hx, hb, hml, hown, hts⟩ (c_X1_greatestPlace l D cI fo ft fl fn (sg cn) (tg cn) (tr cn) (ln cn) (by first | assumption | omega) (by first | assumption | omega) (by first | assumption | omega)) (cwV 1 hts gX6_greatest_X1_greatestPlace rfl rfl rfl (by decide +kernel) ⟨(Nat.le_of_ble_eq_true rfl), (Nat.le_of_ble_eq_true rfl)⟩) (ro_preV hPc hKi rfl (q0 := 0) rfl) rfl rfl hl.1 rfl (lv_room (Nat.le_of_ble_eq_true rfl)) dX6_greatest_17 ⟨Nat.zero_le _, Nat.zero_le _⟩) ?_
    refine lv_goto (tgt := 25) hx hb dX6_greatest_20 (by decide) ?_
    subst hQ
    exact W.iret (v := fX1_greatestPlace fl fn (tr cn) (ln cn)) hx hb hr (fun u9 ht hW => ⟨_, rfl, hF, ht⟩) (fun q hq => by cases hq) dX6_greatest_25
def fX6_clear (tr : Nat → Nat → Int32) (ln : Nat → Nat) (fl : Nat → Int32) (fn : Nat) (xc : Int32) : Int32 := (if (fX6_isSign xc) = 0 then (-101) else fX1_clearness fl fn (tr (xc.toNatClampNeg)) (ln (xc.toNatClampNeg)))
abbrev rmX6_clear : Room := { frames := 6, cells := 0, slots := 0, locals := 142 }
set_option maxHeartbeats 4000000 in
set_option maxRecDepth 100000 in
theorem c_X6_clear (l : Launch) (D : va_G) (cI : ClassId) (cS : ClassId) (h : Nat) (sa : Nat) (sg : Nat → Nat) (tg : Nat → Nat) (tr : Nat → Nat → Int32) (ln : Nat → Nat) (fo : Nat) (ft : Nat) (fl : Nat → Int32) (fn : Nat) (ro : Nat) (tp : Nat) (tq : Nat) (per : Nat → Int32) (rea : Nat → Int32) (rn : Nat) (wo : Nat) (tn : Nat) (td : Nat) (rw : Nat → Int32) (wn : Nat) (od : Nat → Int32) (sr : Nat) (xc : Int32) (hln : ∀ c, c < 6 → 1 ≤ ln c ∧ ln c ≤ 16) (hfn : 1 ≤ fn ∧ fn ≤ 24) : Met l yX6_clear wsX6_clear rmX6_clear (va_Pc [.ref h, .int xc] (roP D [(cI, .int), (cS, .object RX5)] (PSW cI cS h sa sg tg tr ln fo ft fl fn ro tp tq per rea rn wo tn td rw wn od sr))) (vp_Si (fun r9 => r9 = fX6_clear tr ln fl fn xc)) 0 0 (fun _ => False) := by
  generalize hF : fX6_clear tr ln fl fn xc = T
  refine Met.ofW (cc := cX6_clear) (maxL := 2) (ret := (some .int)) (by decide) rfl ?_
  intro p e s m args below meth c s₁ B hml hv
  obtain ⟨rfl, hP, hK⟩ := hv
  have hx := B.exec
  have hb := B.bytes
  have hr := B.returns
  have hts := atoms_spec (ws := wsX6_clear) B.pre
  have hown : s.vm.findClass RX6 = some m.cls := findClass_of_methodNamed B.named
  have hlocks := B.notSynchronized
  have hinX6 : ∀ w ∈ u_ws RX6 TX6 5, w ∈ wsX6_clear := by decide +kernel
  have hf18 := hts (.fieldLink RX6 18 "PulseSigns" "sieve" "LPulseSigns$Filter;") (by decide +kernel)
  have hf11 := hts (.fieldLink RX6 11 "PulseSigns" "signs" "[LPulseSigns$Sign;") (by decide +kernel)
  have hKi := hK.sub [0] (tys' := [(cI, .int)]) rfl
  have hl := lv_entry ([.ref h, .int xc]) (n := 2) (Nat.le_of_ble_eq_true rfl)
  rw [lg_entry_eq]
  generalize (lg_sl ([.ref h, .int xc]) ++ List.replicate (2 - (lg_sl ([.ref h, .int xc])).length) Slot.unset).toArray = ls at hl ⊢
  refine w_Q (fun Q hQ => ?_)
  have hl : lv_has ls 2 [(0, .ref h), (1, .int xc)] := hl
  rw [fX6_clear] at hF
  refine lv_iload_n hx hb dX6_clear_0 rfl (lv_at hl 1 rfl) ?_
  have hPc : va_P D vwCl [] s.heap := (pnil _ _ _)
  refine cs_i (va_runS (As := [.int xc]) (rest := []) ⟨hx, hb, hml, hown, hts⟩ (c_X6_isSign l D cI xc ) (va_cwS 1 hts gX6_clear_X6_isSign rfl rfl rfl (by decide +kernel) ⟨(Nat.le_of_ble_eq_true rfl), (Nat.le_of_ble_eq_true rfl)⟩) (ro_pre hPc hKi) rfl rfl hl.1 rfl (lv_room (Nat.le_of_ble_eq_true rfl)) dX6_clear_1 ⟨Nat.zero_le _, Nat.zero_le _⟩) ?_
  refine lv_if_eq (tgt := 23) hx hb dX6_clear_4 (by decide) (fun c4 => ?_) (fun c4 => ?_)
  · rw [if_pos c4] at hF
    refine lv_bipush (v := (-101)) hx hb dX6_clear_23 (by decide) ?_
    subst hQ
    exact W.iret (v := (-101)) hx hb hr (fun u9 ht hW => ⟨_, rfl, hF, ht⟩) (fun q hq => by cases hq) dX6_clear_25
  · rw [if_neg c4] at hF
    obtain ⟨cn, hcn, rfl⟩ := sg_nat c4
    have h16cn := hln cn (by omega)
    have e_cn : (nI cn).toNatClampNeg = cn := nI_clamp (by omega)
    try simp only [e_cn] at hF
    refine lv_aload_n hx hb dX6_clear_7 rfl (lv_at hl 0 rfl) ?_
    refine va_get (D := D) (ci := 4) (v := .ref fo) (C := RX6) (T := TX6) (N := 5) hx hb hts hinX6 hown hK.1 hP 0 rfl rfl 1 (by decide) hf18 (fun _ h9 => h9) rfl dX6_clear_8 ?_
    refine lv_aload_n hx hb dX6_clear_11 rfl (lv_at hl 0 rfl) ?_
    refine va_get (D := D) (ci := 4) (v := .ref sa) (C := RX6) (T := TX6) (N := 5) hx hb hts hinX6 hown hK.1 hP 0 rfl rfl 0 (by decide) hf11 (fun _ h9 => h9) rfl dX6_clear_12 ?_
    refine lv_iload_n hx hb dX6_clear_15 rfl (lv_at hl 1 rfl) ?_
    refine w_aref hx hb hK hP 1 1 rfl rfl cn rfl (by omega) (by omega) rfl dX6_clear_16 ?_
    have hPc : va_P D vwCl [(fo, .inr (0, [.ref ft, .int (nI fn)])), (ft, .inl (cI, 24, .inl fl)), (sg cn, .inr (3, [.ref (tg cn), .int (nI (ln cn))])), (tg cn, .inl (cI, 16, .inl (tr cn)))] s.heap := (pcons (i := 14) hP rfl (pcons (i := 15) hP rfl (pcons (i := (2 + 2 * cn)) hP (psw_s (by omega)) (pcons (i := (3 + 2 * cn)) hP (psw_t (by omega)) (pnil _ _ _)))))
    refine cs_i (va_runV (As := [.ref (sg cn)]) (rest := []) ⟨hx, hb, hml, hown, hts⟩ (c_X1_clearness l D cI fo ft fl fn (sg cn) (tg cn) (tr cn) (ln cn) (by first | assumption | omega) (by first | assumption | omega) (by first | assumption | omega)) (cwV 1 hts gX6_clear_X1_clearness rfl rfl rfl (by decide +kernel) ⟨(Nat.le_of_ble_eq_true rfl), (Nat.le_of_ble_eq_true rfl)⟩) (ro_preV hPc hKi rfl (q0 := 0) rfl) rfl rfl hl.1 rfl (lv_room (Nat.le_of_ble_eq_true rfl)) dX6_clear_17 ⟨Nat.zero_le _, Nat.zero_le _⟩) ?_
    refine lv_goto (tgt := 25) hx hb dX6_clear_20 (by decide) ?_
    subst hQ
    exact W.iret (v := fX1_clearness fl fn (tr cn) (ln cn)) hx hb hr (fun u9 ht hW => ⟨_, rfl, hF, ht⟩) (fun q hq => by cases hq) dX6_clear_25
