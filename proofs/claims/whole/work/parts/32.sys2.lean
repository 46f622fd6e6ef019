def fX6_rests (per : Nat → Int32) (rea : Nat → Int32) (rn : Nat) (xn : Int32) : Int32 × Nat × (Nat → Int32) × (Nat → Int32) := (if (fX6_within xn 1 4) = 0 then ((-102), rn, per, rea) else (nI (xn.toNatClampNeg), (fX2_reset per rea (xn.toNatClampNeg)).1, (fX2_reset per rea (xn.toNatClampNeg)).2.1, (fX2_reset per rea (xn.toNatClampNeg)).2.2))
abbrev rmX6_rests : Room := { frames := 1, cells := 0, slots := 0, locals := 22 }
set_option maxHeartbeats 4000000 in
set_option maxRecDepth 100000 in
theorem c_X6_rests (l : Launch) (D : va_G) (cI : ClassId) (cS : ClassId) (sz : Nat) (h : Nat) (sa : Nat) (sg : Nat → Nat) (tg : Nat → Nat) (tr : Nat → Nat → Int32) (ln : Nat → Nat) (fo : Nat) (ft : Nat) (fl : Nat → Int32) (fn : Nat) (ro : Nat) (tp : Nat) (tq : Nat) (per : Nat → Int32) (rea : Nat → Int32) (rn : Nat) (wo : Nat) (tn : Nat) (td : Nat) (rw : Nat → Int32) (wn : Nat) (od : Nat → Int32) (sr : Nat) (xn : Int32)  : Met l yX6_rests wsX6_rests rmX6_rests (va_Pc [.ref h, .int xn] (wrP D [(cI, .int), (cS, .object RX5)] (PSW cI cS h sa sg tg tr ln fo ft fl fn ro tp tq per rea rn wo tn td rw wn od sr) sz)) (va_Qi (fun r9 (_ : Unit) => r9 = (fX6_rests per rea rn xn).1) (fun _ u9 => va_P D vwCl (PSW cI cS h sa sg tg tr ln fo ft fl fn ro tp tq ((fX6_rests per rea rn xn).2.2.1) ((fX6_rests per rea rn xn).2.2.2) ((fX6_rests per rea rn xn).2.1) wo tn td rw wn od sr) u9.heap) (va_A (PSW cI cS h sa sg tg tr ln fo ft fl fn ro tp tq per rea rn wo tn td rw wn od sr) sz)) 0 0 (va_A (PSW cI cS h sa sg tg tr ln fo ft fl fn ro tp tq per rea rn wo tn td rw wn od sr) sz) := by
  generalize hF : fX6_rests per rea rn xn = T
  refine Met.ofW (cc := cX6_rests) (maxL := 2) (ret := (some .int)) (by decide) rfl ?_
  intro p e s m args below meth c s₁ B hml hv
  obtain ⟨rfl, hsz, hP, hK, hD0⟩ := hv
  have hx := B.exec
  have hb := B.bytes
  have hr := B.returns
  have hts := atoms_spec (ws := wsX6_rests) B.pre
  have hown : s.vm.findClass RX6 = some m.cls := findClass_of_methodNamed B.named
  have hlocks := B.notSynchronized
  have hinX6 : ∀ w ∈ u_ws RX6 TX6 5, w ∈ wsX6_rests := by decide +kernel
  have hf25 := hts (.fieldLink RX6 25 "PulseSigns" "ways" "LPulseSigns$Rests;") (by decide +kernel)
  subst hsz
  have hD := hD0.self (sz := s.heap.size)
  generalize hAe : va_A (PSW cI cS h sa sg tg tr ln fo ft fl fn ro tp tq per rea rn wo tn td rw wn od sr) s.heap.size = A at hD ⊢
  have hA : ∀ q : Nat, s.heap.size ≤ q → A q := fun q h => by rw [← hAe]; exact Or.inr h
  have hS : va_S A s.heap s.heap [] := va_S.rf
  have hP : va_P D vwCl (PSW cI cS h sa sg tg tr ln fo ft fl fn ro tp tq per rea rn wo tn td rw wn od sr) s.heap := hP
  have hKi := hK.sub [0] (tys' := [(cI, .int)]) rfl
  have hl := lv_entry ([.ref h, .int xn]) (n := 2) (Nat.le_of_ble_eq_true rfl)
  rw [lg_entry_eq]
  generalize (lg_sl ([.ref h, .int xn]) ++ List.replicate (2 - (lg_sl ([.ref h, .int xn])).length) Slot.unset).toArray = ls at hl ⊢
  refine w_Q (fun Q hQ => ?_)
  have hl : lv_has ls 2 [(0, .ref h), (1, .int xn)] := hl
  rw [fX6_rests] at hF
  refine lv_iload_n hx hb dX6_rests_0 rfl (lv_at hl 1 rfl) ?_
  refine lv_iconst (v := 1) hx hb dX6_rests_1 (by decide) ?_
  refine lv_iconst (v := 4) hx hb dX6_rests_2 (by decide) ?_
  have hPc : va_P D vwCl [] s.heap := (pnil _ _ _)
  refine cs_i (va_runS (As := [.int xn, .int 1, .int 4]) (rest := []) ⟨hx, hb, hml, hown, hts⟩ (c_X6_within l D cI xn 1 4 ) (va_cwS 3 hts gX6_rests_X6_within rfl rfl rfl (by decide +kernel) ⟨(Nat.le_of_ble_eq_true rfl), (Nat.le_of_ble_eq_true rfl)⟩) (ro_pre hPc hKi) rfl rfl hl.1 rfl (lv_room (Nat.le_of_ble_eq_true rfl)) dX6_rests_3 ⟨Nat.zero_le _, Nat.zero_le _⟩) ?_
  refine lv_if_ne (tgt := 12) hx hb dX6_rests_6 (by decide) (fun c6 => ?_) (fun c6 => ?_)
  · rw [if_neg c6] at hF
    obtain ⟨nn, hnn1, hnn, rfl⟩ := wt_nat (a := 1) (b := 4) c6 (by omega)
    have e_nn : (nI nn).toNatClampNeg = nn := nI_clamp (by omega)
    try simp only [e_nn] at hF
    refine lv_aload_n hx hb dX6_rests_12 rfl (lv_at hl 0 rfl) ?_
    refine va_get (D := D) (ci := 4) (v := .ref ro) (C := RX6) (T := TX6) (N := 5) hx hb hts hinX6 hown hK.1 hP 0 rfl rfl 2 (by decide) hf25 (fun _ h9 => h9) rfl dX6_rests_13 ?_
    refine lv_iload_n hx hb dX6_rests_16 rfl (lv_at hl 1 rfl) ?_
    have hPc : va_P D vwCl [(ro, .inr (1, [.ref tp, .ref tq, .int (nI rn)])), (tp, .inl (cI, 4, .inl per)), (tq, .inl (cI, 4, .inl rea))] s.heap := (pcons (i := 16) hP rfl (pcons (i := 17) hP rfl (pcons (i := 18) hP rfl (pnil _ _ _))))
    have hDc : va_D A [(ro, .inr (1, [.ref tp, .ref tq, .int (nI rn)])), (tp, .inl (cI, 4, .inl per)), (tq, .inl (cI, 4, .inl rea))] := hD.sub [16, 17, 18] (by simp [va_nd] <;> omega) rfl
    refine cx_v (va_runV (As := [.int (nI nn)]) (rest := []) ⟨hx, hb, hml, hown, hts⟩ (c_X2_reset l D cI s.heap.size ro tp tq per rea rn nn ) (cwV 1 hts gX6_rests_X2_reset rfl rfl rfl (by decide +kernel) ⟨(Nat.le_of_ble_eq_true rfl), (Nat.le_of_ble_eq_true rfl)⟩) (wr_preV hPc hDc hKi rfl (q0 := 0) rfl) rfl rfl hl.1 rfl (lv_room (Nat.le_of_ble_eq_true rfl)) dX6_rests_17 ⟨Nat.zero_le _, Nat.zero_le _⟩) hP hD hS hA [16, 17, 18] rfl [ro, tp, tq] rfl rfl (fun H locs hP hD hS => ?_)
    have hP : va_P D vwCl (PSW cI cS h sa sg tg tr ln fo ft fl fn ro tp tq ((fX2_reset per rea nn).2.1) ((fX2_reset per rea nn).2.2) ((fX2_reset per rea nn).1) wo tn td rw wn od sr) H := hP
    have hD : va_D A (PSW cI cS h sa sg tg tr ln fo ft fl fn ro tp tq ((fX2_reset per rea nn).2.1) ((fX2_reset per rea nn).2.2) ((fX2_reset per rea nn).1) wo tn td rw wn od sr) := hD
    refine lv_iload_n hx hb dX6_rests_20 rfl (lv_at hl 1 rfl) ?_
    subst hF
    subst hQ
    exact W.iret (v := nI nn) hx hb hr (fun u9 ht hW => ⟨⟨_, (), rfl, rfl, by rw [← ht] at hP; exact hP⟩, hS.F ht⟩) hS.2.2 dX6_rests_21
  · rw [if_pos c6] at hF
    refine lv_bipush (v := (-102)) hx hb dX6_rests_9 (by decide) ?_
    subst hF
    subst hQ
    exact W.iret (v := (-102)) hx hb hr (fun u9 ht hW => ⟨⟨_, (), rfl, rfl, by rw [← ht] at hP; exact hP⟩, hS.F ht⟩) hS.2.2 dX6_rests_11
def fX6_rest (per : Nat → Int32) (rea : Nat → Int32) (rn : Nat) (xi : Int32) (xp : Int32) : Int32 × (Nat → Int32) × (Nat → Int32) := (if (fX2_has rn xi) = 0 then ((-101), per, rea) else (if (fX6_within xp 2 60) = 0 then ((-102), per, rea) else (per (xi.toNatClampNeg), upd per (xi.toNatClampNeg) xp, upd rea (xi.toNatClampNeg) (-1))))
abbrev rmX6_rest : Room := { frames := 2, cells := 0, slots := 0, locals := 43 }
set_option maxHeartbeats 4000000 in
set_option maxRecDepth 100000 in
theorem c_X6_rest (l : Launch) (D : va_G) (cI : ClassId) (cS : ClassId) (sz : Nat) (h : Nat) (sa : Nat) (sg : Nat → Nat) (tg : Nat → Nat) (tr : Nat → Nat → Int32) (ln : Nat → Nat) (fo : Nat) (ft : Nat) (fl : Nat → Int32) (fn : Nat) (ro : Nat) (tp : Nat) (tq : Nat) (per : Nat → Int32) (rea : Nat → Int32) (rn : Nat) (wo : Nat) (tn : Nat) (td : Nat) (rw : Nat → Int32) (wn : Nat) (od : Nat → Int32) (sr : Nat) (xi : Int32) (xp : Int32) (hrn : 1 ≤ rn ∧ rn ≤ 4) : Met l yX6_rest wsX6_rest rmX6_rest (va_Pc [.ref h, .int xi, .int xp] (wrP D [(cI, .int), (cS, .object RX5)] (PSW cI cS h sa sg tg tr ln fo ft fl fn ro tp tq per rea rn wo tn td rw wn od sr) sz)) (va_Qi (fun r9 (_ : Unit) => r9 = (fX6_rest per rea rn xi xp).1) (fun _ u9 => va_P D vwCl (PSW cI cS h sa sg tg tr ln fo ft fl fn ro tp tq ((fX6_rest per rea rn xi xp).2.1) ((fX6_rest per rea rn xi xp).2.2) rn wo tn td rw wn od sr) u9.heap) (va_A (PSW cI cS h sa sg tg tr ln fo ft fl fn ro tp tq per rea rn wo tn td rw wn od sr) sz)) 0 0 (va_A (PSW cI cS h sa sg tg tr ln fo ft fl fn ro tp tq per rea rn wo tn td rw wn od sr) sz) := by
  generalize hF : fX6_rest per rea rn xi xp = T
  refine Met.ofW (cc := cX6_rest) (maxL := 4) (ret := (some .int)) (by decide) rfl ?_
  intro p e s m args below meth c s₁ B hml hv
  obtain ⟨rfl, hsz, hP, hK, hD0⟩ := hv
  have hx := B.exec
  have hb := B.bytes
  have hr := B.returns
  have hts := atoms_spec (ws := wsX6_rest) B.pre
  have hown : s.vm.findClass RX6 = some m.cls := findClass_of_methodNamed B.named
  have hlocks := B.notSynchronized
  have hinX2 : ∀ w ∈ u_ws RX2 TX2 3, w ∈ wsX6_rest := by decide +kernel
  have hinX6 : ∀ w ∈ u_ws RX6 TX6 5, w ∈ wsX6_rest := by decide +kernel
  have hf25 := hts (.fieldLink RX6 25 "PulseSigns" "ways" "LPulseSigns$Rests;") (by decide +kernel)
  have hf130 := hts (.fieldLink RX6 130 "PulseSigns$Rests" "periods" "[I") (by decide +kernel)
  have hf133 := hts (.fieldLink RX6 133 "PulseSigns$Rests" "readings" "[I") (by decide +kernel)
  subst hsz
  have hD := hD0.self (sz := s.heap.size)
  generalize hAe : va_A (PSW cI cS h sa sg tg tr ln fo ft fl fn ro tp tq per rea rn wo tn td rw wn od sr) s.heap.size = A at hD ⊢
  have hA : ∀ q : Nat, s.heap.size ≤ q → A q := fun q h => by rw [← hAe]; exact Or.inr h
  have hS : va_S A s.heap s.heap [] := va_S.rf
  have hP : va_P D vwCl (PSW cI cS h sa sg tg tr ln fo ft fl fn ro tp tq per rea rn wo tn td rw wn od sr) s.heap := hP
  have hKi := hK.sub [0] (tys' := [(cI, .int)]) rfl
  have hl := lv_entry ([.ref h, .int xi, .int xp]) (n := 4) (Nat.le_of_ble_eq_true rfl)
  rw [lg_entry_eq]
  generalize (lg_sl ([.ref h, .int xi, .int xp]) ++ List.replicate (4 - (lg_sl ([.ref h, .int xi, .int xp])).length) Slot.unset).toArray = ls at hl ⊢
  refine w_Q (fun Q hQ => ?_)
  have hl : lv_has ls 4 [(0, .ref h), (1, .int xi), (2, .int xp)] := hl
  rw [fX6_rest] at hF
  refine lv_aload_n hx hb dX6_rest_0 rfl (lv_at hl 0 rfl) ?_
  refine va_get (D := D) (ci := 4) (v := .ref ro) (C := RX6) (T := TX6) (N := 5) hx hb hts hinX6 hown hK.1 hP 0 rfl rfl 2 (by decide) hf25 (fun _ h9 => h9) rfl dX6_rest_1 ?_
  refine lv_iload_n hx hb dX6_rest_4 rfl (lv_at hl 1 rfl) ?_
  have hPc : va_P D vwCl [(ro, .inr (1, [.ref tp, .ref tq, .int (nI rn)])), (tp, .inl (cI, 4, .inl per)), (tq, .inl (cI, 4, .inl rea))] s.heap := (pcons (i := 16) hP rfl (pcons (i := 17) hP rfl (pcons (i := 18) hP rfl (pnil _ _ _))))
  refine cs_i (va_runV (As := [.int xi]) (rest := []) ⟨hx, hb, hml, hown, hts⟩ (c_X2_has l D cI ro tp tq per rea rn xi ) (cwV 1 hts gX6_rest_X2_has rfl rfl rfl (by decide +kernel) ⟨(Nat.le_of_ble_eq_true rfl), (Nat.le_of_ble_eq_true rfl)⟩) (ro_preV hPc hKi rfl (q0 := 0) rfl) rfl rfl hl.1 rfl (lv_room (Nat.le_of_ble_eq_true rfl)) dX6_rest_5 ⟨Nat.zero_le _, Nat.zero_le _⟩) ?_
  refine lv_if_ne (tgt := 14) hx hb dX6_rest_8 (by decide) (fun c8 => ?_) (fun c8 => ?_)
  · rw [if_neg c8] at hF
    obtain ⟨ii, hii, rfl⟩ := wt_m1 c8 (by omega)
    have e_ii : (nI ii).toNatClampNeg = ii := nI_clamp (by omega)
    try simp only [e_ii] at hF
    refine lv_iload_n hx hb dX6_rest_14 rfl (lv_at hl 2 rfl) ?_
    refine lv_iconst (v := 2) hx hb dX6_rest_15 (by decide) ?_
    refine lv_bipush (v := 60) hx hb dX6_rest_16 (by decide) ?_
    have hPc : va_P D vwCl [] s.heap := (pnil _ _ _)
    refine cs_i (va_runS (As := [.int xp, .int 2, .int 60]) (rest := []) ⟨hx, hb, hml, hown, hts⟩ (c_X6_within l D cI xp 2 60 ) (va_cwS 3 hts gX6_rest_X6_within rfl rfl rfl (by decide +kernel) ⟨(Nat.le_of_ble_eq_true rfl), (Nat.le_of_ble_eq_true rfl)⟩) (ro_pre hPc hKi) rfl rfl hl.1 rfl (lv_room (Nat.le_of_ble_eq_true rfl)) dX6_rest_18 ⟨Nat.zero_le _, Nat.zero_le _⟩) ?_
    refine lv_if_ne (tgt := 27) hx hb dX6_rest_21 (by decide) (fun c21 => ?_) (fun c21 => ?_)
    · rw [if_neg c21] at hF
      refine lv_aload_n hx hb dX6_rest_27 rfl (lv_at hl 0 rfl) ?_
      refine va_get (D := D) (ci := 4) (v := .ref ro) (C := RX6) (T := TX6) (N := 5) hx hb hts hinX6 hown hK.1 hP 0 rfl rfl 2 (by decide) hf25 (fun _ h9 => h9) rfl dX6_rest_28 ?_
      refine va_get (D := D) (ci := 1) (v := .ref tp) (C := RX2) (T := TX2) (N := 3) hx hb hts hinX2 hown hK.1 hP 16 rfl rfl 0 (by decide) hf130 (fun _ h9 => h9) rfl dX6_rest_31 ?_
      refine lv_iload_n hx hb dX6_rest_34 rfl (lv_at hl 1 rfl) ?_
      refine w_ald hx hb hK hP 17 0 rfl rfl (ii) rfl (by omega) (by omega) dX6_rest_35 ?_
      refine lv_istore_n (lv' := [(3, .int (per ii)), (0, .ref h), (1, .int (nI ii)), (2, .int xp)]) hx hb dX6_rest_36 rfl hl (by decide) rfl (fun ls hl => ?_)
      refine lv_aload_n hx hb dX6_rest_37 rfl (lv_at hl 1 rfl) ?_
      refine va_get (D := D) (ci := 4) (v := .ref ro) (C := RX6) (T := TX6) (N := 5) hx hb hts hinX6 hown hK.1 hP 0 rfl rfl 2 (by decide) hf25 (fun _ h9 => h9) rfl dX6_rest_38 ?_
      refine va_get (D := D) (ci := 1) (v := .ref tp) (C := RX2) (T := TX2) (N := 3) hx hb hts hinX2 hown hK.1 hP 16 rfl rfl 0 (by decide) hf130 (fun _ h9 => h9) rfl dX6_rest_41 ?_
      refine lv_iload_n hx hb dX6_rest_44 rfl (lv_at hl 2 rfl) ?_
      refine lv_iload_n hx hb dX6_rest_45 rfl (lv_at hl 3 rfl) ?_
      refine w_ast hx hb hK hP hD hS 17 0 rfl rfl (ii) rfl (by omega) (by omega) dX6_rest_46 (fun H locs hP hD hS => ?_)
      have hP : va_P D vwCl (PSW cI cS h sa sg tg tr ln fo ft fl fn ro tp tq (upd per ii xp) rea rn wo tn td rw wn od sr) H := hP
      have hD : va_D A (PSW cI cS h sa sg tg tr ln fo ft fl fn ro tp tq (upd per ii xp) rea rn wo tn td rw wn od sr) := hD
      refine lv_aload_n hx hb dX6_rest_47 rfl (lv_at hl 1 rfl) ?_
      refine va_get (D := D) (ci := 4) (v := .ref ro) (C := RX6) (T := TX6) (N := 5) hx hb hts hinX6 hown hK.1 hP 0 rfl rfl 2 (by decide) hf25 (fun _ h9 => h9) rfl dX6_rest_48 ?_
      refine va_get (D := D) (ci := 1) (v := .ref tq) (C := RX2) (T := TX2) (N := 3) hx hb hts hinX2 hown hK.1 hP 16 rfl rfl 1 (by decide) hf133 (fun _ h9 => h9) rfl dX6_rest_51 ?_
      refine lv_iload_n hx hb dX6_rest_54 rfl (lv_at hl 2 rfl) ?_
      refine lv_iconst (v := (-1)) hx hb dX6_rest_55 (by decide) ?_
      refine w_ast hx hb hK hP hD hS 18 0 rfl rfl (ii) rfl (by omega) (by omega) dX6_rest_56 (fun H locs hP hD hS => ?_)
      have hP : va_P D vwCl (PSW cI cS h sa sg tg tr ln fo ft fl fn ro tp tq (upd per ii xp) (upd rea ii (-1)) rn wo tn td rw wn od sr) H := hP
      have hD : va_D A (PSW cI cS h sa sg tg tr ln fo ft fl fn ro tp tq (upd per ii xp) (upd rea ii (-1)) rn wo tn td rw wn od sr) := hD
      refine lv_iload_n hx hb dX6_rest_57 rfl (lv_at hl 0 rfl) ?_
      subst hF
      subst hQ
      exact W.iret (v := per ii) hx hb hr (fun u9 ht hW => ⟨⟨_, (), rfl, rfl, by rw [← ht] at hP; exact hP⟩, hS.F ht⟩) hS.2.2 dX6_rest_58
    · rw [if_pos c21] at hF
      refine lv_bipush (v := (-102)) hx hb dX6_rest_24 (by decide) ?_
      subst hF
      subst hQ
      exact W.iret (v := (-102)) hx hb hr (fun u9 ht hW => ⟨⟨_, (), rfl, rfl, by rw [← ht] at hP; exact hP⟩, hS.F ht⟩) hS.2.2 dX6_rest_26
  · rw [if_pos c8] at hF
    refine lv_bipush (v := (-101)) hx hb dX6_rest_11 (by decide) ?_
    subst hF
    subst hQ
    exact W.iret (v := (-101)) hx hb hr (fun u9 ht hW => ⟨⟨_, (), rfl, rfl, by rw [← ht] at hP; exact hP⟩, hS.F ht⟩) hS.2.2 dX6_rest_13
def fX6_read (per : Nat → Int32) (rea : Nat → Int32) (rn : Nat) (xi : Int32) (xv : Int32) : Int32 × (Nat → Int32) := (if (fX2_has rn xi) = 0 then ((-101), rea) else (if xv = (-1) then (rea (xi.toNatClampNeg), upd rea (xi.toNatClampNeg) xv) else (if (fX6_within xv 0 ((per (xi.toNatClampNeg)) - 1)) = 0 then ((-102), rea) else (rea (xi.toNatClampNeg), upd rea (xi.toNatClampNeg) xv))))
abbrev rmX6_read : Room := { frames := 2, cells := 0, slots := 0, locals := 43 }
set_option maxHeartbeats 4000000 in
set_option maxRecDepth 100000 in
theorem c_X6_read (l : Launch) (D : va_G) (cI : ClassId) (cS : ClassId) (sz : Nat) (h : Nat) (sa : Nat) (sg : Nat → Nat) (tg : Nat → Nat) (tr : Nat → Nat → Int32) (ln : Nat → Nat) (fo : Nat) (ft : Nat) (fl : Nat → Int32) (fn : Nat) (ro : Nat) (tp : Nat) (tq : Nat) (per : Nat → Int32) (rea : Nat → Int32) (rn : Nat) (wo : Nat) (tn : Nat) (td : Nat) (rw : Nat → Int32) (wn : Nat) (od : Nat → Int32) (sr : Nat) (xi : Int32) (xv : Int32) (hrn : 1 ≤ rn ∧ rn ≤ 4) : Met l yX6_read wsX6_read rmX6_read (va_Pc [.ref h, .int xi, .int xv] (wrP D [(cI, .int), (cS, .object RX5)] (PSW cI cS h sa sg tg tr ln fo ft fl fn ro tp tq per rea rn wo tn td rw wn od sr) sz)) (va_Qi (fun r9 (_ : Unit) => r9 = (fX6_read per rea rn xi xv).1) (fun _ u9 => va_P D vwCl (PSW cI cS h sa sg tg tr ln fo ft fl fn ro tp tq per ((fX6_read per rea rn xi xv).2) rn wo tn td rw wn od sr) u9.heap) (va_A (PSW cI cS h sa sg tg tr ln fo ft fl fn ro tp tq per rea rn wo tn td rw wn od sr) sz)) 0 0 (va_A (PSW cI cS h sa sg tg tr ln fo ft fl fn ro tp tq per rea rn wo tn td rw wn od sr) sz) := by
  generalize hF : fX6_read per rea rn xi xv = T
  refine Met.ofW (cc := cX6_read) (maxL := 4) (ret := (some .int)) (by decide) rfl ?_
  intro p e s m args below meth c s₁ B hml hv
  obtain ⟨rfl, hsz, hP, hK, hD0⟩ := hv
  have hx := B.exec
  have hb := B.bytes
  have hr := B.returns
  have hts := atoms_spec (ws := wsX6_read) B.pre
  have hown : s.vm.findClass RX6 = some m.cls := findClass_of_methodNamed B.named
  have hlocks := B.notSynchronized
  have hinX2 : ∀ w ∈ u_ws RX2 TX2 3, w ∈ wsX6_read := by decide +kernel
  have hinX6 : ∀ w ∈ u_ws RX6 TX6 5, w ∈ wsX6_read := by decide +kernel
  have hf25 := hts (.fieldLink RX6 25 "PulseSigns" "ways" "LPulseSigns$Rests;") (by decide +kernel)
  have hf133 := hts (.fieldLink RX6 133 "PulseSigns$Rests" "readings" "[I") (by decide +kernel)
  have hf130 := hts (.fieldLink RX6 130 "PulseSigns$Rests" "periods" "[I") (by decide +kernel)
  subst hsz
  have hD := hD0.self (sz := s.heap.size)
  generalize hAe : va_A (PSW cI cS h sa sg tg tr ln fo ft fl fn ro tp tq per rea rn wo tn td rw wn od sr) s.heap.size = A at hD ⊢
  have hA : ∀ q : Nat, s.heap.size ≤ q → A q := fun q h => by rw [← hAe]; exact Or.inr h
  have hS : va_S A s.heap s.heap [] := va_S.rf
  have hP : va_P D vwCl (PSW cI cS h sa sg tg tr ln fo ft fl fn ro tp tq per rea rn wo tn td rw wn od sr) s.heap := hP
  have hKi := hK.sub [0] (tys' := [(cI, .int)]) rfl
  have hl := lv_entry ([.ref h, .int xi, .int xv]) (n := 4) (Nat.le_of_ble_eq_true rfl)
  rw [lg_entry_eq]
  generalize (lg_sl ([.ref h, .int xi, .int xv]) ++ List.replicate (4 - (lg_sl ([.ref h, .int xi, .int xv])).length) Slot.unset).toArray = ls at hl ⊢
  refine w_Q (fun Q hQ => ?_)
  have hl : lv_has ls 4 [(0, .ref h), (1, .int xi), (2, .int xv)] := hl
  rw [fX6_read] at hF
  refine lv_aload_n hx hb dX6_read_0 rfl (lv_at hl 0 rfl) ?_
  refine va_get (D := D) (ci := 4) (v := .ref ro) (C := RX6) (T := TX6) (N := 5) hx hb hts hinX6 hown hK.1 hP 0 rfl rfl 2 (by decide) hf25 (fun _ h9 => h9) rfl dX6_read_1 ?_
  refine lv_iload_n hx hb dX6_read_4 rfl (lv_at hl 1 rfl) ?_
  have hPc : va_P D vwCl [(ro, .inr (1, [.ref tp, .ref tq, .int (nI rn)])), (tp, .inl (cI, 4, .inl per)), (tq, .inl (cI, 4, .inl rea))] s.heap := (pcons (i := 16) hP rfl (pcons (i := 17) hP rfl (pcons (i := 18) hP rfl (pnil _ _ _))))
  refine cs_i (va_runV (As := [.int xi]) (rest := []) ⟨hx, hb, hml, hown, hts⟩ (c_X2_has l D cI ro tp tq per rea rn xi ) (cwV 1 hts gX6_read_X2_has rfl rfl rfl (by decide +kernel) ⟨(Nat.le_of_ble_eq_true rfl), (Nat.le_of_ble_eq_true rfl)⟩) (ro_preV hPc hKi rfl (q0 := 0) rfl) rfl rfl hl.1 rfl (lv_room (Nat.le_of_ble_eq_true rfl)) dX6_read_5 ⟨Nat.zero_le _, Nat.zero_le _⟩) ?_
  refine lv_if_ne (tgt := 14) hx hb dX6_read_8 (by decide) (fun c8 => ?_) (fun c8 => ?_)
  · rw [if_neg c8] at hF
    obtain ⟨ii, hii, rfl⟩ := wt_m1 c8 (by omega)
    have e_ii : (nI ii).toNatClampNeg = ii := nI_clamp (by omega)
    try simp only [e_ii] at hF
    refine lv_iload_n hx hb dX6_read_14 rfl (lv_at hl 2 rfl) ?_
    refine lv_iconst (v := (-1)) hx hb dX6_read_15 (by decide) ?_
    refine lv_icmp_eq (tgt := 41) hx hb dX6_read_16 (by decide) (fun c16 => ?_) (fun c16 => ?_)
    · rw [if_pos c16] at hF
      refine lv_aload_n hx hb dX6_read_41 rfl (lv_at hl 0 rfl) ?_
      refine va_get (D := D) (ci := 4) (v := .ref ro) (C := RX6) (T := TX6) (N := 5) hx hb hts hinX6 hown hK.1 hP 0 rfl rfl 2 (by decide) hf25 (fun _ h9 => h9) rfl dX6_read_42 ?_
      refine va_get (D := D) (ci := 1) (v := .ref tq) (C := RX2) (T := TX2) (N := 3) hx hb hts hinX2 hown hK.1 hP 16 rfl rfl 1 (by decide) hf133 (fun _ h9 => h9) rfl dX6_read_45 ?_
      refine lv_iload_n hx hb dX6_read_48 rfl (lv_at hl 1 rfl) ?_
      refine w_ald hx hb hK hP 18 0 rfl rfl (ii) rfl (by omega) (by omega) dX6_read_49 ?_
      refine lv_istore_n (lv' := [(3, .int (rea ii)), (0, .ref h), (1, .int (nI ii)), (2, .int xv)]) hx hb dX6_read_50 rfl hl (by decide) rfl (fun ls hl => ?_)
      refine lv_aload_n hx hb dX6_read_51 rfl (lv_at hl 1 rfl) ?_
      refine va_get (D := D) (ci := 4) (v := .ref ro) (C := RX6) (T := TX6) (N := 5) hx hb hts hinX6 hown hK.1 hP 0 rfl rfl 2 (by decide) hf25 (fun _ h9 => h9) rfl dX6_read_52 ?_
      refine va_get (D := D) (ci := 1) (v := .ref tq) (C := RX2) (T := TX2) (N := 3) hx hb hts hinX2 hown hK.1 hP 16 rfl rfl 1 (by decide) hf133 (fun _ h9 => h9) rfl dX6_read_55 ?_
      refine lv_iload_n hx hb dX6_read_58 rfl (lv_at hl 2 rfl) ?_
      refine lv_iload_n hx hb dX6_read_59 rfl (lv_at hl 3 rfl) ?_
      refine w_ast hx hb hK hP hD hS 18 0 rfl rfl (ii) rfl (by omega) (by omega) dX6_read_60 (fun H locs hP hD hS => ?_)
      have hP : va_P D vwCl (PSW cI cS h sa sg tg tr ln fo ft fl fn ro tp tq per (upd rea ii xv) rn wo tn td rw wn od sr) H := hP
      have hD : va_D A (PSW cI cS h sa sg tg tr ln fo ft fl fn ro tp tq per (upd rea ii xv) rn wo tn td rw wn od sr) := hD
      refine lv_iload_n hx hb dX6_read_61 rfl (lv_at hl 0 rfl) ?_
      subst hF
      subst hQ
      exact W.iret (v := rea ii) hx hb hr (fun u9 ht hW => ⟨⟨_, (), rfl, rfl, by rw [← ht] at hP; exact hP⟩, hS.F ht⟩) hS.2.2 dX6_read_62
    · rw [if_neg c16] at hF
      refine lv_iload_n hx hb dX6_read_19 rfl (lv_at hl 2 rfl) ?_
      refine lv_iconst (v := 0) hx hb dX6_read_20 (by decide) ?_
      refine lv_aload_n hx hb dX6_read_21 rfl (lv_at hl 0 rfl) ?_
      refine va_get (D := D) (ci := 4) (v := .ref ro) (C := RX6) (T := TX6) (N := 5) hx hb hts hinX6 hown hK.1 hP 0 rfl rfl 2 (by decide) hf25 (fun _ h9 => h9) rfl dX6_read_22 ?_
      refine va_get (D := D) (ci := 1) (v := .ref tp) (C := RX2) (T := TX2) (N := 3) hx hb hts hinX2 hown hK.1 hP 16 rfl rfl 0 (by decide) hf130 (fun _ h9 => h9) rfl dX6_read_25 ?_
      refine lv_iload_n hx hb dX6_read_28 rfl (lv_at hl 1 rfl) ?_
      refine w_ald hx hb hK hP 17 0 rfl rfl (ii) rfl (by omega) (by omega) dX6_read_29 ?_
      refine lv_iconst (v := 1) hx hb dX6_read_30 (by decide) ?_
      refine lv_isub hx hb dX6_read_31 ?_
      have hPc : va_P D vwCl [] s.heap := (pnil _ _ _)
      refine cs_i (va_runS (As := [.int xv, .int 0, .int ((per ii) - 1)]) (rest := []) ⟨hx, hb, hml, hown, hts⟩ (c_X6_within l D cI xv 0 ((per ii) - 1) ) (va_cwS 3 hts gX6_read_X6_within rfl rfl rfl (by decide +kernel) ⟨(Nat.le_of_ble_eq_true rfl), (Nat.le_of_ble_eq_true rfl)⟩) (ro_pre hPc hKi) rfl rfl hl.1 rfl (lv_room (Nat.le_of_ble_eq_true rfl)) dX6_read_32 ⟨Nat.zero_le _, Nat.zero_le _⟩) ?_
      refine lv_if_ne (tgt := 41) hx hb dX6_read_35 (by decide) (fun c35 => ?_) (fun c35 => ?_)
      · rw [if_neg c35] at hF
        refine lv_aload_n hx hb dX6_read_41 rfl (lv_at hl 0 rfl) ?_
        refine va_get (D := D) (ci := 4) (v := .ref ro) (C := RX6) (T := TX6) (N := 5) hx hb hts hinX6 hown hK.1 hP 0 rfl rfl 2 (by decide) hf25 (fun _ h9 => h9) rfl dX6_read_42 ?_
        refine va_get (D := D) (ci := 1) (v := .ref tq) (C := RX2) (T := TX2) (N := 3) hx hb hts hinX2 hown hK.1 hP 16 rfl rfl 1 (by decide) hf133 (fun _ h9 => h9) rfl dX6_read_45 ?_
        refine lv_iload_n hx hb dX6_read_48 rfl (lv_at hl 1 rfl) ?_
        refine w_ald hx hb hK hP 18 0 rfl rfl (ii) rfl (by omega) (by omega) dX6_read_49 ?_
        refine lv_istore_n (lv' := [(3, .int (rea ii)), (0, .ref h), (1, .int (nI ii)), (2, .int xv)]) hx hb dX6_read_50 rfl hl (by decide) rfl (fun ls hl => ?_)
        refine lv_aload_n hx hb dX6_read_51 rfl (lv_at hl 1 rfl) ?_
        refine va_get (D := D) (ci := 4) (v := .ref ro) (C := RX6) (T := TX6) (N := 5) hx hb hts hinX6 hown hK.1 hP 0 rfl rfl 2 (by decide) hf25 (fun _ h9 => h9) rfl dX6_read_52 ?_
        refine va_get (D := D) (ci := 1) (v := .ref tq) (C := RX2) (T := TX2) (N := 3) hx hb hts hinX2 hown hK.1 hP 16 rfl rfl 1 (by decide) hf133 (fun _ h9 => h9) rfl dX6_read_55 ?_
        refine lv_iload_n hx hb dX6_read_58 rfl (lv_at hl 2 rfl) ?_
        refine lv_iload_n hx hb dX6_read_59 rfl (lv_at hl 3 rfl) ?_
        refine w_ast hx hb hK hP hD hS 18 0 rfl rfl (ii) rfl (by omega) (by omega) dX6_read_60 (fun H locs hP hD hS => ?_)
        have hP : va_P D vwCl (PSW cI cS h sa sg tg tr ln fo ft fl fn ro tp tq per (upd rea ii xv) rn wo tn td rw wn od sr) H := hP
        have hD : va_D A (PSW cI cS h sa sg tg tr ln fo ft fl fn ro tp tq per (upd rea ii xv) rn wo tn td rw wn od sr) := hD
        refine lv_iload_n hx hb dX6_read_61 rfl (lv_at hl 0 rfl) ?_
        subst hF
        subst hQ
        exact W.iret (v := rea ii) hx hb hr (fun u9 ht hW => ⟨⟨_, (), rfl, rfl, by rw [← ht] at hP; exact hP⟩, hS.F ht⟩) hS.2.2 dX6_read_62
      · rw [if_pos c35] at hF
        refine lv_bipush (v := (-102)) hx hb dX6_read_38 (by decide) ?_
        subst hF
        subst hQ
        exact W.iret (v := (-102)) hx hb hr (fun u9 ht hW => ⟨⟨_, (), rfl, rfl, by rw [← ht] at hP; exact hP⟩, hS.F ht⟩) hS.2.2 dX6_read_40
  · rw [if_pos c8] at hF
    refine lv_bipush (v := (-101)) hx hb dX6_read_11 (by decide) ?_
    subst hF
    subst hQ
    exact W.iret (v := (-101)) hx hb hr (fun u9 ht hW => ⟨⟨_, (), rfl, rfl, by rw [← ht] at hP; exact hP⟩, hS.F ht⟩) hS.2.2 dX6_read_13
def fX6_fold (per : Nat → Int32) (rea : Nat → Int32) (rn : Nat) (xr : Int32) : Int32 × (Nat → Int32) := (if (fX6_within xr 0 1000000) = 0 then ((-102), rea) else (nI rn, fX2_readAll per rea rn xr))
abbrev rmX6_fold : Room := { frames := 2, cells := 0, slots := 0, locals := 45 }
set_option maxHeartbeats 4000000 in
set_option maxRecDepth 100000 in
theorem c_X6_fold (l : Launch) (D : va_G) (cI : ClassId) (cS : ClassId) (sz : Nat) (h : Nat) (sa : Nat) (sg : Nat → Nat) (tg : Nat → Nat) (tr : Nat → Nat → Int32) (ln : Nat → Nat) (fo : Nat) (ft : Nat) (fl : Nat → Int32) (fn : Nat) (ro : Nat) (tp : Nat) (tq : Nat) (per : Nat → Int32) (rea : Nat → Int32) (rn : Nat) (wo : Nat) (tn : Nat) (td : Nat) (rw : Nat → Int32) (wn : Nat) (od : Nat → Int32) (sr : Nat) (xr : Int32) (hrn : 1 ≤ rn ∧ rn ≤ 4) (hper : ∀ i, i < 4 → ¬ per i = 0) : Met l yX6_fold wsX6_fold rmX6_fold (va_Pc [.ref h, .int xr] (wrP D [(cI, .int), (cS, .object RX5)] (PSW cI cS h sa sg tg tr ln fo ft fl fn ro tp tq per rea rn wo tn td rw wn od sr) sz)) (va_Qi (fun r9 (_ : Unit) => r9 = (fX6_fold per rea rn xr).1) (fun _ u9 => va_P D vwCl (PSW cI cS h sa sg tg tr ln fo ft fl fn ro tp tq per ((fX6_fold per rea rn xr).2) rn wo tn td rw wn od sr) u9.heap) (va_A (PSW cI cS h sa sg tg tr ln fo ft fl fn ro tp tq per rea rn wo tn td rw wn od sr) sz)) 0 0 (va_A (PSW cI cS h sa sg tg tr ln fo ft fl fn ro tp tq per rea rn wo tn td rw wn od sr) sz) := by
  generalize hF : fX6_fold per rea rn xr = T
  refine Met.ofW (cc := cX6_fold) (maxL := 2) (ret := (some .int)) (by decide) rfl ?_
  intro p e s m args below meth c s₁ B hml hv
  obtain ⟨rfl, hsz, hP, hK, hD0⟩ := hv
  have hx := B.exec
  have hb := B.bytes
  have hr := B.returns
  have hts := atoms_spec (ws := wsX6_fold) B.pre
  have hown : s.vm.findClass RX6 = some m.cls := findClass_of_methodNamed B.named
  have hlocks := B.notSynchronized
  have hinX2 : ∀ w ∈ u_ws RX2 TX2 3, w ∈ wsX6_fold := by decide +kernel
  have hinX6 : ∀ w ∈ u_ws RX6 TX6 5, w ∈ wsX6_fold := by decide +kernel
  have hcst136 := hts (.constant RX6 136 1000000) (by decide +kernel)
  have hf25 := hts (.fieldLink RX6 25 "PulseSigns" "ways" "LPulseSigns$Rests;") (by decide +kernel)
  have hf140 := hts (.fieldLink RX6 140 "PulseSigns$Rests" "length" "I") (by decide +kernel)
  subst hsz
  have hD := hD0.self (sz := s.heap.size)
  generalize hAe : va_A (PSW cI cS h sa sg tg tr ln fo ft fl fn ro tp tq per rea rn wo tn td rw wn od sr) s.heap.size = A at hD ⊢
  have hA : ∀ q : Nat, s.heap.size ≤ q → A q := fun q h => by rw [← hAe]; exact Or.inr h
  have hS : va_S A s.heap s.heap [] := va_S.rf
  have hP : va_P D vwCl (PSW cI cS h sa sg tg tr ln fo ft fl fn ro tp tq per rea rn wo tn td rw wn od sr) s.heap := hP
  have hKi := hK.sub [0] (tys' := [(cI, .int)]) rfl
  have hl := lv_entry ([.ref h, .int xr]) (n := 2) (Nat.le_of_ble_eq_true rfl)
  rw [lg_entry_eq]
  generalize (lg_sl ([.ref h, .int xr]) ++ List.replicate (2 - (lg_sl ([.ref h, .int xr])).length) Slot.unset).toArray = ls at hl ⊢
  refine w_Q (fun Q hQ => ?_)
  have hl : lv_has ls 2 [(0, .ref h), (1, .int xr)] := hl
  rw [fX6_fold] at hF
  refine lv_iload_n hx hb dX6_fold_0 rfl (lv_at hl 1 rfl) ?_
  refine lv_iconst (v := 0) hx hb dX6_fold_1 (by decide) ?_
  refine lv_ldc (v := 1000000) hx hb hown hcst136 dX6_fold_2 ?_
  have hPc : va_P D vwCl [] s.heap := (pnil _ _ _)
  refine cs_i (va_runS (As := [.int xr, .int 0, .int 1000000]) (rest := []) ⟨hx, hb, hml, hown, hts⟩ (c_X6_within l D cI xr 0 1000000 ) (va_cwS 3 hts gX6_fold_X6_within rfl rfl rfl (by decide +kernel) ⟨(Nat.le_of_ble_eq_true rfl), (Nat.le_of_ble_eq_true rfl)⟩) (ro_pre hPc hKi) rfl rfl hl.1 rfl (lv_room (Nat.le_of_ble_eq_true rfl)) dX6_fold_4 ⟨Nat.zero_le _, Nat.zero_le _⟩) ?_
  refine lv_if_ne (tgt := 13) hx hb dX6_fold_7 (by decide) (fun c7 => ?_) (fun c7 => ?_)
  · rw [if_neg c7] at hF
    refine lv_aload_n hx hb dX6_fold_13 rfl (lv_at hl 0 rfl) ?_
    refine va_get (D := D) (ci := 4) (v := .ref ro) (C := RX6) (T := TX6) (N := 5) hx hb hts hinX6 hown hK.1 hP 0 rfl rfl 2 (by decide) hf25 (fun _ h9 => h9) rfl dX6_fold_14 ?_
    refine lv_iload_n hx hb dX6_fold_17 rfl (lv_at hl 1 rfl) ?_
    have hPc : va_P D vwCl [(ro, .inr (1, [.ref tp, .ref tq, .int (nI rn)])), (tp, .inl (cI, 4, .inl per)), (tq, .inl (cI, 4, .inl rea))] s.heap := (pcons (i := 16) hP rfl (pcons (i := 17) hP rfl (pcons (i := 18) hP rfl (pnil _ _ _))))
    have hDc : va_D A [(ro, .inr (1, [.ref tp, .ref tq, .int (nI rn)])), (tp, .inl (cI, 4, .inl per)), (tq, .inl (cI, 4, .inl rea))] := hD.sub [16, 17, 18] (by simp [va_nd] <;> omega) rfl
    refine cx_v (va_runV (As := [.int xr]) (rest := []) ⟨hx, hb, hml, hown, hts⟩ (c_X2_readAll l D cI s.heap.size ro tp tq per rea rn xr (by first | assumption | omega) (by first | assumption | omega)) (cwV 1 hts gX6_fold_X2_readAll rfl rfl rfl (by decide +kernel) ⟨(Nat.le_of_ble_eq_true rfl), (Nat.le_of_ble_eq_true rfl)⟩) (wr_preV hPc hDc hKi rfl (q0 := 0) rfl) rfl rfl hl.1 rfl (lv_room (Nat.le_of_ble_eq_true rfl)) dX6_fold_18 ⟨Nat.zero_le _, Nat.zero_le _⟩) hP hD hS hA [16, 17, 18] rfl [ro, tp, tq] rfl rfl (fun H locs hP hD hS => ?_)
    have hP : va_P D vwCl (PSW cI cS h sa sg tg tr ln fo ft fl fn ro tp tq per (fX2_readAll per rea rn xr) rn wo tn td rw wn od sr) H := hP
    have hD : va_D A (PSW cI cS h sa sg tg tr ln fo ft fl fn ro tp tq per (fX2_readAll per rea rn xr) rn wo tn td rw wn od sr) := hD
    refine lv_aload_n hx hb dX6_fold_21 rfl (lv_at hl 0 rfl) ?_
    refine va_get (D := D) (ci := 4) (v := .ref ro) (C := RX6) (T := TX6) (N := 5) hx hb hts hinX6 hown hK.1 hP 0 rfl rfl 2 (by decide) hf25 (fun _ h9 => h9) rfl dX6_fold_22 ?_
    refine va_get (D := D) (ci := 1) (v := .int (nI rn)) (C := RX2) (T := TX2) (N := 3) hx hb hts hinX2 hown hK.1 hP 16 rfl rfl 2 (by decide) hf140 (fun _ h9 => h9) rfl dX6_fold_25 ?_
    subst hF
    subst hQ
    exact W.iret (v := nI rn) hx hb hr (fun u9 ht hW => ⟨⟨_, (), rfl, rfl, by rw [← ht] at hP; exact hP⟩, hS.F ht⟩) hS.2.2 dX6_fold_28
  · rw [if_pos c7] at hF
    refine lv_bipush (v := (-102)) hx hb dX6_fold_10 (by decide) ?_
    subst hF
    subst hQ
    exact W.iret (v := (-102)) hx hb hr (fun u9 ht hW => ⟨⟨_, (), rfl, rfl, by rw [← ht] at hP; exact hP⟩, hS.F ht⟩) hS.2.2 dX6_fold_12
def fX6_unfold (per : Nat → Int32) (rea : Nat → Int32) (rn : Nat) (er : Int32) (mm : Int32) (xs : Int32) : Int32 := (if (fX2_mayUnfold er mm xs) = 0 then (-102) else fX2_fitting per rea rn er mm (xs.toNatClampNeg))
abbrev rmX6_unfold : Room := { frames := 4, cells := 0, slots := 0, locals := 97 }
set_option maxHeartbeats 4000000 in
set_option maxRecDepth 100000 in
theorem c_X6_unfold (l : Launch) (D : va_G) (cI : ClassId) (cS : ClassId) (h : Nat) (sa : Nat) (sg : Nat → Nat) (tg : Nat → Nat) (tr : Nat → Nat → Int32) (ln : Nat → Nat) (fo : Nat) (ft : Nat) (fl : Nat → Int32) (fn : Nat) (ro : Nat) (tp : Nat) (tq : Nat) (per : Nat → Int32) (rea : Nat → Int32) (rn : Nat) (wo : Nat) (tn : Nat) (td : Nat) (rw : Nat → Int32) (wn : Nat) (od : Nat → Int32) (sr : Nat) (er : Int32) (mm : Int32) (xs : Int32) (hrn : 1 ≤ rn ∧ rn ≤ 4) (hper : ∀ i, i < 4 → ¬ per i = 0) : Met l yX6_unfold wsX6_unfold rmX6_unfold (va_Pc [.ref h, .int er, .int mm, .int xs] (roP D [(cI, .int), (cS, .object RX5)] (PSW cI cS h sa sg tg tr ln fo ft fl fn ro tp tq per rea rn wo tn td rw wn od sr))) (vp_Si (fun r9 => r9 = fX6_unfold per rea rn er mm xs)) 0 0 (fun _ => False) := by
  generalize hF : fX6_unfold per rea rn er mm xs = T
  refine Met.ofW (cc := cX6_unfold) (maxL := 4) (ret := (some .int)) (by decide) rfl ?_
  intro p e s m args below meth c s₁ B hml hv
  obtain ⟨rfl, hP, hK⟩ := hv
  have hx := B.exec
  have hb := B.bytes
  have hr := B.returns
  have hts := atoms_spec (ws := wsX6_unfold) B.pre
  have hown : s.vm.findClass RX6 = some m.cls := findClass_of_methodNamed B.named
  have hlocks := B.notSynchronized
  have hinX6 : ∀ w ∈ u_ws RX6 TX6 5, w ∈ wsX6_unfold := by decide +kernel
  have hf25 := hts (.fieldLink RX6 25 "PulseSigns" "ways" "LPulseSigns$Rests;") (by decide +kernel)
  have hKi := hK.sub [0] (tys' := [(cI, .int)]) rfl
  have hl := lv_entry ([.ref h, .int er, .int mm, .int xs]) (n := 4) (Nat.le_of_ble_eq_true rfl)
  rw [lg_entry_eq]
  generalize (lg_sl ([.ref h, .int er, .int mm, .int xs]) ++ List.replicate (4 - (lg_sl ([.ref h, .int er, .int mm, .int xs])).length) Slot.unset).toArray = ls at hl ⊢
  refine w_Q (fun Q hQ => ?_)
  have hl : lv_has ls 4 [(0, .ref h), (1, .int er), (2, .int mm), (3, .int xs)] := hl
  rw [fX6_unfold] at hF
  refine lv_iload_n hx hb dX6_unfold_0 rfl (lv_at hl 1 rfl) ?_
  refine lv_iload_n hx hb dX6_unfold_1 rfl (lv_at hl 2 rfl) ?_
  refine lv_iload_n hx hb dX6_unfold_2 rfl (lv_at hl 3 rfl) ?_
  have hPc : va_P D vwCl [] s.heap := (pnil _ _ _)
  refine cs_i (va_runS (As := [.int er, .int mm, .int xs]) (rest := []) ⟨hx, hb, hml, hown, hts⟩ (c_X2_mayUnfold l D cI er mm xs ) (va_cwS 3 hts gX6_unfold_X2_mayUnfold rfl rfl rfl (by decide +kernel) ⟨(Nat.le_of_ble_eq_true rfl), (Nat.le_of_ble_eq_true rfl)⟩) (ro_pre hPc hKi) rfl rfl hl.1 rfl (lv_room (Nat.le_of_ble_eq_true rfl)) dX6_unfold_3 ⟨Nat.zero_le _, Nat.zero_le _⟩) ?_
  refine lv_if_eq (tgt := 22) hx hb dX6_unfold_6 (by decide) (fun c6 => ?_) (fun c6 => ?_)
  · rw [if_pos c6] at hF
    refine lv_bipush (v := (-102)) hx hb dX6_unfold_22 (by decide) ?_
    subst hQ
    exact W.iret (v := (-102)) hx hb hr (fun u9 ht hW => ⟨_, rfl, hF, ht⟩) (fun q hq => by cases hq) dX6_unfold_24
  · rw [if_neg c6] at hF
    obtain ⟨sp, hsp1, hsp, rfl⟩ := may_nat c6
    have e_sp : (nI sp).toNatClampNeg = sp := nI_clamp (by omega)
    try simp only [e_sp] at hF
    refine lv_aload_n hx hb dX6_unfold_9 rfl (lv_at hl 0 rfl) ?_
    refine va_get (D := D) (ci := 4) (v := .ref ro) (C := RX6) (T := TX6) (N := 5) hx hb hts hinX6 hown hK.1 hP 0 rfl rfl 2 (by decide) hf25 (fun _ h9 => h9) rfl dX6_unfold_10 ?_
    refine lv_iload_n hx hb dX6_unfold_13 rfl (lv_at hl 1 rfl) ?_
    refine lv_iload_n hx hb dX6_unfold_14 rfl (lv_at hl 2 rfl) ?_
    refine lv_iload_n hx hb dX6_unfold_15 rfl (lv_at hl 3 rfl) ?_
    have hPc : va_P D vwCl [(ro, .inr (1, [.ref tp, .ref tq, .int (nI rn)])), (tp, .inl (cI, 4, .inl per)), (tq, .inl (cI, 4, .inl rea))] s.heap := (pcons (i := 16) hP rfl (pcons (i := 17) hP rfl (pcons (i := 18) hP rfl (pnil _ _ _))))
    refine cs_i (va_runV (As := [.int er, .int mm, .int (nI sp)]) (rest := []) ⟨hx, hb, hml, hown, hts⟩ (c_X2_fitting l D cI ro tp tq per rea rn er mm sp (by first | assumption | omega) (by first | assumption | omega) (by first | assumption | omega)) (cwV 3 hts gX6_unfold_X2_fitting rfl rfl rfl (by decide +kernel) ⟨(Nat.le_of_ble_eq_true rfl), (Nat.le_of_ble_eq_true rfl)⟩) (ro_preV hPc hKi rfl (q0 := 0) rfl) rfl rfl hl.1 rfl (lv_room (Nat.le_of_ble_eq_true rfl)) dX6_unfold_16 ⟨Nat.zero_le _, Nat.zero_le _⟩) ?_
    refine lv_goto (tgt := 24) hx hb dX6_unfold_19 (by decide) ?_
    subst hQ
    exact W.iret (v := fX2_fitting per rea rn er mm sp) hx hb hr (fun u9 ht hW => ⟨_, rfl, hF, ht⟩) (fun q hq => by cases hq) dX6_unfold_24
def fX6_unfolded (per : Nat → Int32) (rea : Nat → Int32) (rn : Nat) (er : Int32) (mm : Int32) (xs : Int32) (j : Int32) : Int32 := (if (fX2_mayUnfold er mm xs) = 0 then (-102) else fX2_fittingAt per rea rn er mm (xs.toNatClampNeg) j)
abbrev rmX6_unfolded : Room := { frames := 4, cells := 0, slots := 0, locals := 98 }
set_option maxHeartbeats 4000000 in
set_option maxRecDepth 100000 in
theorem c_X6_unfolded (l : Launch) (D : va_G) (cI : ClassId) (cS : ClassId) (h : Nat) (sa : Nat) (sg : Nat → Nat) (tg : Nat → Nat) (tr : Nat → Nat → Int32) (ln : Nat → Nat) (fo : Nat) (ft : Nat) (fl : Nat → Int32) (fn : Nat) (ro : Nat) (tp : Nat) (tq : Nat) (per : Nat → Int32) (rea : Nat → Int32) (rn : Nat) (wo : Nat) (tn : Nat) (td : Nat) (rw : Nat → Int32) (wn : Nat) (od : Nat → Int32) (sr : Nat) (er : Int32) (mm : Int32) (xs : Int32) (j : Int32) (hrn : 1 ≤ rn ∧ rn ≤ 4) (hper : ∀ i, i < 4 → ¬ per i = 0) : Met l yX6_unfolded wsX6_unfolded rmX6_unfolded (va_Pc [.ref h, .int er, .int mm, .int xs, .int j] (roP D [(cI, .int), (cS, .object RX5)] (PSW cI cS h sa sg tg tr ln fo ft fl fn ro tp tq per rea rn wo tn td rw wn od sr))) (vp_Si (fun r9 => r9 = fX6_unfolded per rea rn er mm xs j)) 0 0 (fun _ => False) := by
  generalize hF : fX6_unfolded per rea rn er mm xs j = T
  refine Met.ofW (cc := cX6_unfolded) (maxL := 5) (ret := (some .int)) (by decide) rfl ?_
  intro p e s m args below meth c s₁ B hml hv
  obtain ⟨rfl, hP, hK⟩ := hv
  have hx := B.exec
  have hb := B.bytes
  have hr := B.returns
  have hts := atoms_spec (ws := wsX6_unfolded) B.pre
  have hown : s.vm.findClass RX6 = some m.cls := findClass_of_methodNamed B.named
  have hlocks := B.notSynchronized
  have hinX6 : ∀ w ∈ u_ws RX6 TX6 5, w ∈ wsX6_unfolded := by decide +kernel
  have hf25 := hts (.fieldLink RX6 25 "PulseSigns" "ways" "LPulseSigns$Rests;") (by decide +kernel)
  have hKi := hK.sub [0] (tys' := [(cI, .int)]) rfl
  have hl := lv_entry ([.ref h, .int er, .int mm, .int xs, .int j]) (n := 5) (Nat.le_of_ble_eq_true rfl)
  rw [lg_entry_eq]
  generalize (lg_sl ([.ref h, .int er, .int mm, .int xs, .int j]) ++ List.replicate (5 - (lg_sl ([.ref h, .int er, .int mm, .int xs, .int j])).length) Slot.unset).toArray = ls at hl ⊢
  refine w_Q (fun Q hQ => ?_)
  have hl : lv_has ls 5 [(0, .ref h), (1, .int er), (2, .int mm), (3, .int xs), (4, .int j)] := hl
  rw [fX6_unfolded] at hF
  refine lv_iload_n hx hb dX6_unfolded_0 rfl (lv_at hl 1 rfl) ?_
  refine lv_iload_n hx hb dX6_unfolded_1 rfl (lv_at hl 2 rfl) ?_
  refine lv_iload_n hx hb dX6_unfolded_2 rfl (lv_at hl 3 rfl) ?_
  have hPc : va_P D vwCl [] s.heap := (pnil _ _ _)
  refine cs_i (va_runS (As := [.int er, .int mm, .int xs]) (rest := []) ⟨hx, hb, hml, hown, hts⟩ (c_X2_mayUnfold l D cI er mm xs ) (va_cwS 3 hts gX6_unfolded_X2_mayUnfold rfl rfl rfl (by decide +kernel) ⟨(Nat.le_of_ble_eq_true rfl), (Nat.le_of_ble_eq_true rfl)⟩) (ro_pre hPc hKi) rfl rfl hl.1 rfl (lv_room (Nat.le_of_ble_eq_true rfl)) dX6_unfolded_3 ⟨Nat.zero_le _, Nat.zero_le _⟩) ?_
  refine lv_if_eq (tgt := 24) hx hb dX6_unfolded_6 (by decide) (fun c6 => ?_) (fun c6 => ?_)
  · rw [if_pos c6] at hF
    refine lv_bipush (v := (-102)) hx hb dX6_unfolded_24 (by decide) ?_
    subst hQ
    exact W.iret (v := (-102)) hx hb hr (fun u9 ht hW => ⟨_, rfl, hF, ht⟩) (fun q hq => by cases hq) dX6_unfolded_26
  · rw [if_neg c6] at hF
    obtain ⟨sp, hsp1, hsp, rfl⟩ := may_nat c6
    have e_sp : (nI sp).toNatClampNeg = sp := nI_clamp (by omega)
    try simp only [e_sp] at hF
    refine lv_aload_n hx hb dX6_unfolded_9 rfl (lv_at hl 0 rfl) ?_
    refine va_get (D := D) (ci := 4) (v := .ref ro) (C := RX6) (T := TX6) (N := 5) hx hb hts hinX6 hown hK.1 hP 0 rfl rfl 2 (by decide) hf25 (fun _ h9 => h9) rfl dX6_unfolded_10 ?_
    refine lv_iload_n hx hb dX6_unfolded_13 rfl (lv_at hl 1 rfl) ?_
    refine lv_iload_n hx hb dX6_unfolded_14 rfl (lv_at hl 2 rfl) ?_
    refine lv_iload_n hx hb dX6_unfolded_15 rfl (lv_at hl 3 rfl) ?_
    refine lv_iload hx hb dX6_unfolded_16 (lv_at hl 4 rfl) ?_
    have hPc : va_P D vwCl [(ro, .inr (1, [.ref tp, .ref tq, .int (nI rn)])), (tp, .inl (cI, 4, .inl per)), (tq, .inl (cI, 4, .inl rea))] s.heap := (pcons (i := 16) hP rfl (pcons (i := 17) hP rfl (pcons (i := 18) hP rfl (pnil _ _ _))))
    refine cs_i (va_runV (As := [.int er, .int mm, .int (nI sp), .int j]) (rest := []) ⟨hx, hb, hml, hown, hts⟩ (c_X2_fittingAt l D cI ro tp tq per rea rn er mm sp j (by first | assumption | omega) (by first | assumption | omega) (by first | assumption | omega)) (cwV 4 hts gX6_unfolded_X2_fittingAt rfl rfl rfl (by decide +kernel) ⟨(Nat.le_of_ble_eq_true rfl), (Nat.le_of_ble_eq_true rfl)⟩) (ro_preV hPc hKi rfl (q0 := 0) rfl) rfl rfl hl.1 rfl (lv_room (Nat.le_of_ble_eq_true rfl)) dX6_unfolded_18 ⟨Nat.zero_le _, Nat.zero_le _⟩) ?_
    refine lv_goto (tgt := 26) hx hb dX6_unfolded_21 (by decide) ?_
    subst hQ
    exact W.iret (v := fX2_fittingAt per rea rn er mm sp j) hx hb hr (fun u9 ht hW => ⟨_, rfl, hF, ht⟩) (fun q hq => by cases hq) dX6_unfolded_26
def fX6_common (per : Nat → Int32) (rn : Nat) : Int32 := fX2_leastCommon per rn
abbrev rmX6_common : Room := { frames := 2, cells := 0, slots := 0, locals := 53 }
set_option maxHeartbeats 4000000 in
set_option maxRecDepth 100000 in
theorem c_X6_common (l : Launch) (D : va_G) (cI : ClassId) (cS : ClassId) (h : Nat) (sa : Nat) (sg : Nat → Nat) (tg : Nat → Nat) (tr : Nat → Nat → Int32) (ln : Nat → Nat) (fo : Nat) (ft : Nat) (fl : Nat → Int32) (fn : Nat) (ro : Nat) (tp : Nat) (tq : Nat) (per : Nat → Int32) (rea : Nat → Int32) (rn : Nat) (wo : Nat) (tn : Nat) (td : Nat) (rw : Nat → Int32) (wn : Nat) (od : Nat → Int32) (sr : Nat) (hrn : 1 ≤ rn ∧ rn ≤ 4) (hper : ∀ i, i < 4 → ¬ per i = 0) (hdv : ∀ (x : Int64) (i : Nat), i < 4 → ¬ fX6_commonDivisor x (per i).toInt64 = 0) : Met l yX6_common wsX6_common rmX6_common (va_Pc [.ref h] (roP D [(cI, .int), (cS, .object RX5)] (PSW cI cS h sa sg tg tr ln fo ft fl fn ro tp tq per rea rn wo tn td rw wn od sr))) (vp_Si (fun r9 => r9 = fX6_common per rn)) 0 0 (fun _ => False) := by
  generalize hF : fX6_common per rn = T
  refine Met.ofW (cc := cX6_common) (maxL := 1) (ret := (some .int)) (by decide) rfl ?_
  intro p e s m args below meth c s₁ B hml hv
  obtain ⟨rfl, hP, hK⟩ := hv
  have hx := B.exec
  have hb := B.bytes
  have hr := B.returns
  have hts := atoms_spec (ws := wsX6_common) B.pre
  have hown : s.vm.findClass RX6 = some m.cls := findClass_of_methodNamed B.named
  have hlocks := B.notSynchronized
  have hinX6 : ∀ w ∈ u_ws RX6 TX6 5, w ∈ wsX6_common := by decide +kernel
  have hf25 := hts (.fieldLink RX6 25 "PulseSigns" "ways" "LPulseSigns$Rests;") (by decide +kernel)
  have hKi := hK.sub [0] (tys' := [(cI, .int)]) rfl
  have hl := lv_entry ([.ref h]) (n := 1) (Nat.le_of_ble_eq_true rfl)
  rw [lg_entry_eq]
  generalize (lg_sl ([.ref h]) ++ List.replicate (1 - (lg_sl ([.ref h])).length) Slot.unset).toArray = ls at hl ⊢
  refine w_Q (fun Q hQ => ?_)
  have hl : lv_has ls 1 [(0, .ref h)] := hl
  rw [fX6_common] at hF
  refine lv_aload_n hx hb dX6_common_0 rfl (lv_at hl 0 rfl) ?_
  refine va_get (D := D) (ci := 4) (v := .ref ro) (C := RX6) (T := TX6) (N := 5) hx hb hts hinX6 hown hK.1 hP 0 rfl rfl 2 (by decide) hf25 (fun _ h9 => h9) rfl dX6_common_1 ?_
  have hPc : va_P D vwCl [(ro, .inr (1, [.ref tp, .ref tq, .int (nI rn)])), (tp, .inl (cI, 4, .inl per)), (tq, .inl (cI, 4, .inl rea))] s.heap := (pcons (i := 16) hP rfl (pcons (i := 17) hP rfl (pcons (i := 18) hP rfl (pnil _ _ _))))
  refine cs_i (va_runV (As := []) (rest := []) ⟨hx, hb, hml, hown, hts⟩ (c_X2_leastCommon l D cI ro tp tq per rea rn (by first | assumption | omega) (by first | assumption | omega) (by first | assumption | omega)) (cwV 0 hts gX6_common_X2_leastCommon rfl rfl rfl (by decide +kernel) ⟨(Nat.le_of_ble_eq_true rfl), (Nat.le_of_ble_eq_true rfl)⟩) (ro_preV hPc hKi rfl (q0 := 0) rfl) rfl rfl hl.1 rfl (lv_room (Nat.le_of_ble_eq_true rfl)) dX6_common_4 ⟨Nat.zero_le _, Nat.zero_le _⟩) ?_
  subst hQ
  exact W.iret (v := fX2_leastCommon per rn) hx hb hr (fun u9 ht hW => ⟨_, rfl, hF, ht⟩) (fun q hq => by cases hq) dX6_common_7
def fX6_blind (per : Nat → Int32) (rn : Nat) (xi : Int32) (xr : Int32) : Int32 := (if xi = (-1) then (if (fX6_within xr 1 3600) = 0 then (-102) else fX2_unseen per 0 (rn - 1) xr) else (if (fX2_has rn xi) = 0 then (-101) else (if (fX6_within xr 1 3600) = 0 then (-102) else fX2_unseen per (xi.toNatClampNeg) (xi.toNatClampNeg) xr)))
abbrev rmX6_blind : Room := { frames := 2, cells := 0, slots := 0, locals := 56 }
set_option maxHeartbeats 4000000 in
set_option maxRecDepth 100000 in
theorem c_X6_blind (l : Launch) (D : va_G) (cI : ClassId) (cS : ClassId) (h : Nat) (sa : Nat) (sg : Nat → Nat) (tg : Nat → Nat) (tr : Nat → Nat → Int32) (ln : Nat → Nat) (fo : Nat) (ft : Nat) (fl : Nat → Int32) (fn : Nat) (ro : Nat) (tp : Nat) (tq : Nat) (per : Nat → Int32) (rea : Nat → Int32) (rn : Nat) (wo : Nat) (tn : Nat) (td : Nat) (rw : Nat → Int32) (wn : Nat) (od : Nat → Int32) (sr : Nat) (xi : Int32) (xr : Int32) (hrn : 1 ≤ rn ∧ rn ≤ 4) (hper : ∀ i, i < 4 → ¬ per i = 0) : Met l yX6_blind wsX6_blind rmX6_blind (va_Pc [.ref h, .int xi, .int xr] (roP D [(cI, .int), (cS, .object RX5)] (PSW cI cS h sa sg tg tr ln fo ft fl fn ro tp tq per rea rn wo tn td rw wn od sr))) (vp_Si (fun r9 => r9 = fX6_blind per rn xi xr)) 0 0 (fun _ => False) := by
  generalize hF : fX6_blind per rn xi xr = T
  refine Met.ofW (cc := cX6_blind) (maxL := 3) (ret := (some .int)) (by decide) rfl ?_
  intro p e s m args below meth c s₁ B hml hv
  obtain ⟨rfl, hP, hK⟩ := hv
  have hx := B.exec
  have hb := B.bytes
  have hr := B.returns
  have hts := atoms_spec (ws := wsX6_blind) B.pre
  have hown : s.vm.findClass RX6 = some m.cls := findClass_of_methodNamed B.named
  have hlocks := B.notSynchronized
  have hinX2 : ∀ w ∈ u_ws RX2 TX2 3, w ∈ wsX6_blind := by decide +kernel
  have hinX6 : ∀ w ∈ u_ws RX6 TX6 5, w ∈ wsX6_blind := by decide +kernel
  have hf25 := hts (.fieldLink RX6 25 "PulseSigns" "ways" "LPulseSigns$Rests;") (by decide +kernel)
  have hf140 := hts (.fieldLink RX6 140 "PulseSigns$Rests" "length" "I") (by decide +kernel)
  have hKi := hK.sub [0] (tys' := [(cI, .int)]) rfl
  have hl := lv_entry ([.ref h, .int xi, .int xr]) (n := 3) (Nat.le_of_ble_eq_true rfl)
  rw [lg_entry_eq]
  generalize (lg_sl ([.ref h, .int xi, .int xr]) ++ List.replicate (3 - (lg_sl ([.ref h, .int xi, .int xr])).length) Slot.unset).toArray = ls at hl ⊢
  refine w_Q (fun Q hQ => ?_)
  have hl : lv_has ls 3 [(0, .ref h), (1, .int xi), (2, .int xr)] := hl
  rw [fX6_blind] at hF
  refine lv_iload_n hx hb dX6_blind_0 rfl (lv_at hl 1 rfl) ?_
  refine lv_iconst (v := (-1)) hx hb dX6_blind_1 (by decide) ?_
  refine lv_icmp_eq (tgt := 19) hx hb dX6_blind_2 (by decide) (fun c2 => ?_) (fun c2 => ?_)
  · rw [if_pos c2] at hF
    refine lv_iload_n hx hb dX6_blind_19 rfl (lv_at hl 2 rfl) ?_
    refine lv_iconst (v := 1) hx hb dX6_blind_20 (by decide) ?_
    refine lv_sipush (v := 3600) hx hb dX6_blind_21 (by decide) ?_
    have hPc : va_P D vwCl [] s.heap := (pnil _ _ _)
    refine cs_i (va_runS (As := [.int xr, .int 1, .int 3600]) (rest := []) ⟨hx, hb, hml, hown, hts⟩ (c_X6_within l D cI xr 1 3600 ) (va_cwS 3 hts gX6_blind_X6_within rfl rfl rfl (by decide +kernel) ⟨(Nat.le_of_ble_eq_true rfl), (Nat.le_of_ble_eq_true rfl)⟩) (ro_pre hPc hKi) rfl rfl hl.1 rfl (lv_room (Nat.le_of_ble_eq_true rfl)) dX6_blind_24 ⟨Nat.zero_le _, Nat.zero_le _⟩) ?_
    refine lv_if_ne (tgt := 33) hx hb dX6_blind_27 (by decide) (fun c27 => ?_) (fun c27 => ?_)
    · rw [if_neg c27] at hF
      refine lv_iload_n hx hb dX6_blind_33 rfl (lv_at hl 1 rfl) ?_
      refine lv_iconst (v := (-1)) hx hb dX6_blind_34 (by decide) ?_
      refine lv_icmp_ne (tgt := 59) hx hb dX6_blind_35 (by decide) (fun c35 => ?_) (fun c35 => ?_)
      · exact False.elim (c35 c2)
      · skip
        refine lv_aload_n hx hb dX6_blind_38 rfl (lv_at hl 0 rfl) ?_
        refine va_get (D := D) (ci := 4) (v := .ref ro) (C := RX6) (T := TX6) (N := 5) hx hb hts hinX6 hown hK.1 hP 0 rfl rfl 2 (by decide) hf25 (fun _ h9 => h9) rfl dX6_blind_39 ?_
        refine lv_iconst (v := 0) hx hb dX6_blind_42 (by decide) ?_
        refine lv_aload_n hx hb dX6_blind_43 rfl (lv_at hl 0 rfl) ?_
        refine va_get (D := D) (ci := 4) (v := .ref ro) (C := RX6) (T := TX6) (N := 5) hx hb hts hinX6 hown hK.1 hP 0 rfl rfl 2 (by decide) hf25 (fun _ h9 => h9) rfl dX6_blind_44 ?_
        refine va_get (D := D) (ci := 1) (v := .int (nI rn)) (C := RX2) (T := TX2) (N := 3) hx hb hts hinX2 hown hK.1 hP 16 rfl rfl 2 (by decide) hf140 (fun _ h9 => h9) rfl dX6_blind_47 ?_
        refine lv_iconst (v := 1) hx hb dX6_blind_50 (by decide) ?_
        refine lv_isub hx hb dX6_blind_51 ?_
        refine lv_iload_n hx hb dX6_blind_52 rfl (lv_at hl 2 rfl) ?_
        have hPc : va_P D vwCl [(ro, .inr (1, [.ref tp, .ref tq, .int (nI rn)])), (tp, .inl (cI, 4, .inl per)), (tq, .inl (cI, 4, .inl rea))] s.heap := (pcons (i := 16) hP rfl (pcons (i := 17) hP rfl (pcons (i := 18) hP rfl (pnil _ _ _))))
        refine cs_i (va_runV (As := [.int 0, .int ((nI rn) - 1), .int xr]) (rest := []) ⟨hx, hb, hml, hown, hts⟩ (c_X2_unseen l D cI ro tp tq per rea rn 0 (rn - 1) ((nI rn) - 1) xr (by omega) hper (by omega) (by omega) (pk_sub (b := 1) (by omega))) (cwV 3 hts gX6_blind_X2_unseen rfl rfl rfl (by decide +kernel) ⟨(Nat.le_of_ble_eq_true rfl), (Nat.le_of_ble_eq_true rfl)⟩) (ro_preV hPc hKi rfl (q0 := 0) rfl) rfl rfl hl.1 rfl (lv_room (Nat.le_of_ble_eq_true rfl)) dX6_blind_53 ⟨Nat.zero_le _, Nat.zero_le _⟩) ?_
        refine lv_goto (tgt := 69) hx hb dX6_blind_56 (by decide) ?_
        subst hQ
        exact W.iret (v := fX2_unseen per 0 (rn - 1) xr) hx hb hr (fun u9 ht hW => ⟨_, rfl, hF, ht⟩) (fun q hq => by cases hq) dX6_blind_69
    · rw [if_pos c27] at hF
      refine lv_bipush (v := (-102)) hx hb dX6_blind_30 (by decide) ?_
      subst hQ
      exact W.iret (v := (-102)) hx hb hr (fun u9 ht hW => ⟨_, rfl, hF, ht⟩) (fun q hq => by cases hq) dX6_blind_32
  · rw [if_neg c2] at hF
    refine lv_aload_n hx hb dX6_blind_5 rfl (lv_at hl 0 rfl) ?_
    refine va_get (D := D) (ci := 4) (v := .ref ro) (C := RX6) (T := TX6) (N := 5) hx hb hts hinX6 hown hK.1 hP 0 rfl rfl 2 (by decide) hf25 (fun _ h9 => h9) rfl dX6_blind_6 ?_
    refine lv_iload_n hx hb dX6_blind_9 rfl (lv_at hl 1 rfl) ?_
    have hPc : va_P D vwCl [(ro, .inr (1, [.ref tp, .ref tq, .int (nI rn)])), (tp, .inl (cI, 4, .inl per)), (tq, .inl (cI, 4, .inl rea))] s.heap := (pcons (i := 16) hP rfl (pcons (i := 17) hP rfl (pcons (i := 18) hP rfl (pnil _ _ _))))
    refine cs_i (va_runV (As := [.int xi]) (rest := []) ⟨hx, hb, hml, hown, hts⟩ (c_X2_has l D cI ro tp tq per rea rn xi ) (cwV 1 hts gX6_blind_X2_has rfl rfl rfl (by decide +kernel) ⟨(Nat.le_of_ble_eq_true rfl), (Nat.le_of_ble_eq_true rfl)⟩) (ro_preV hPc hKi rfl (q0 := 0) rfl) rfl rfl hl.1 rfl (lv_room (Nat.le_of_ble_eq_true rfl)) dX6_blind_10 ⟨Nat.zero_le _, Nat.zero_le _⟩) ?_
    refine lv_if_ne (tgt := 19) hx hb dX6_blind_13 (by decide) (fun c13 => ?_) (fun c13 => ?_)
    · rw [if_neg c13] at hF
      refine lv_iload_n hx hb dX6_blind_19 rfl (lv_at hl 2 rfl) ?_
      refine lv_iconst (v := 1) hx hb dX6_blind_20 (by decide) ?_
      refine lv_sipush (v := 3600) hx hb dX6_blind_21 (by decide) ?_
      have hPc : va_P D vwCl [] s.heap := (pnil _ _ _)
      refine cs_i (va_runS (As := [.int xr, .int 1, .int 3600]) (rest := []) ⟨hx, hb, hml, hown, hts⟩ (c_X6_within l D cI xr 1 3600 ) (va_cwS 3 hts gX6_blind_X6_within rfl rfl rfl (by decide +kernel) ⟨(Nat.le_of_ble_eq_true rfl), (Nat.le_of_ble_eq_true rfl)⟩) (ro_pre hPc hKi) rfl rfl hl.1 rfl (lv_room (Nat.le_of_ble_eq_true rfl)) dX6_blind_24 ⟨Nat.zero_le _, Nat.zero_le _⟩) ?_
      refine lv_if_ne (tgt := 33) hx hb dX6_blind_27 (by decide) (fun c27 => ?_) (fun c27 => ?_)
      · rw [if_neg c27] at hF
        refine lv_iload_n hx hb dX6_blind_33 rfl (lv_at hl 1 rfl) ?_
        refine lv_iconst (v := (-1)) hx hb dX6_blind_34 (by decide) ?_
        refine lv_icmp_ne (tgt := 59) hx hb dX6_blind_35 (by decide) (fun c35 => ?_) (fun c35 => ?_)
        · skip
          obtain ⟨ii, hii, rfl⟩ := wt_m1 c13 (by omega)
          have e_ii : (nI ii).toNatClampNeg = ii := nI_clamp (by omega)
          try simp only [e_ii] at hF
          refine lv_aload_n hx hb dX6_blind_59 rfl (lv_at hl 0 rfl) ?_
          refine va_get (D := D) (ci := 4) (v := .ref ro) (C := RX6) (T := TX6) (N := 5) hx hb hts hinX6 hown hK.1 hP 0 rfl rfl 2 (by decide) hf25 (fun _ h9 => h9) rfl dX6_blind_60 ?_
          refine lv_iload_n hx hb dX6_blind_63 rfl (lv_at hl 1 rfl) ?_
          refine lv_iload_n hx hb dX6_blind_64 rfl (lv_at hl 1 rfl) ?_
          refine lv_iload_n hx hb dX6_blind_65 rfl (lv_at hl 2 rfl) ?_
          have hPc : va_P D vwCl [(ro, .inr (1, [.ref tp, .ref tq, .int (nI rn)])), (tp, .inl (cI, 4, .inl per)), (tq, .inl (cI, 4, .inl rea))] s.heap := (pcons (i := 16) hP rfl (pcons (i := 17) hP rfl (pcons (i := 18) hP rfl (pnil _ _ _))))
          refine cs_i (va_runV (As := [.int (nI ii), .int (nI ii), .int xr]) (rest := []) ⟨hx, hb, hml, hown, hts⟩ (c_X2_unseen l D cI ro tp tq per rea rn ii ii (nI ii) xr (by omega) hper (by omega) (by omega) rfl) (cwV 3 hts gX6_blind_X2_unseen rfl rfl rfl (by decide +kernel) ⟨(Nat.le_of_ble_eq_true rfl), (Nat.le_of_ble_eq_true rfl)⟩) (ro_preV hPc hKi rfl (q0 := 0) rfl) rfl rfl hl.1 rfl (lv_room (Nat.le_of_ble_eq_true rfl)) dX6_blind_66 ⟨Nat.zero_le _, Nat.zero_le _⟩) ?_
          subst hQ
          exact W.iret (v := fX2_unseen per ii ii xr) hx hb hr (fun u9 ht hW => ⟨_, rfl, hF, ht⟩) (fun q hq => by cases hq) dX6_blind_69
        · exact False.elim (c2 c35)
      · rw [if_pos c27] at hF
        refine lv_bipush (v := (-102)) hx hb dX6_blind_30 (by decide) ?_
        subst hQ
        exact W.iret (v := (-102)) hx hb hr (fun u9 ht hW => ⟨_, rfl, hF, ht⟩) (fun q hq => by cases hq) dX6_blind_32
    · rw [if_pos c13] at hF
      refine lv_bipush (v := (-101)) hx hb dX6_blind_16 (by decide) ?_
      subst hQ
      exact W.iret (v := (-101)) hx hb hr (fun u9 ht hW => ⟨_, rfl, hF, ht⟩) (fun q hq => by cases hq) dX6_blind_18
def fX6_put (rw : Nat → Int32) (wn : Nat) (xv : Int32) : Int32 × Nat × (Nat → Int32) := (if (fX6_within xv 0 10000) = 0 then ((-102), wn, rw) else (if ((fX3_append rw wn xv).1) = 0 then ((-104), (fX3_append rw wn xv).2.1, (fX3_append rw wn xv).2.2) else (nI ((fX3_append rw wn xv).2.1), (fX3_append rw wn xv).2.1, (fX3_append rw wn xv).2.2)))
abbrev rmX6_put : Room := { frames := 1, cells := 0, slots := 0, locals := 22 }
set_option maxHeartbeats 4000000 in
set_option maxRecDepth 100000 in
theorem c_X6_put (l : Launch) (D : va_G) (cI : ClassId) (cS : ClassId) (sz : Nat) (h : Nat) (sa : Nat) (sg : Nat → Nat) (tg : Nat → Nat) (tr : Nat → Nat → Int32) (ln : Nat → Nat) (fo : Nat) (ft : Nat) (fl : Nat → Int32) (fn : Nat) (ro : Nat) (tp : Nat) (tq : Nat) (per : Nat → Int32) (rea : Nat → Int32) (rn : Nat) (wo : Nat) (tn : Nat) (td : Nat) (rw : Nat → Int32) (wn : Nat) (od : Nat → Int32) (sr : Nat) (xv : Int32) (hwn : wn ≤ 64) : Met l yX6_put wsX6_put rmX6_put (va_Pc [.ref h, .int xv] (wrP D [(cI, .int), (cS, .object RX5)] (PSW cI cS h sa sg tg tr ln fo ft fl fn ro tp tq per rea rn wo tn td rw wn od sr) sz)) (va_Qi (fun r9 (_ : Unit) => r9 = (fX6_put rw wn xv).1) (fun _ u9 => va_P D vwCl (PSW cI cS h sa sg tg tr ln fo ft fl fn ro tp tq per rea rn wo tn td ((fX6_put rw wn xv).2.2) ((fX6_put rw wn xv).2.1) od sr) u9.heap) (va_A (PSW cI cS h sa sg tg tr ln fo ft fl fn ro tp tq per rea rn wo tn td rw wn od sr) sz)) 0 0 (va_A (PSW cI cS h sa sg tg tr ln fo ft fl fn ro tp tq per rea rn wo tn td rw wn od sr) sz) := by
  generalize hF : fX6_put rw wn xv = T
  refine Met.ofW (cc := cX6_put) (maxL := 2) (ret := (some .int)) (by decide) rfl ?_
  intro p e s m args below meth c s₁ B hml hv
  obtain ⟨rfl, hsz, hP, hK, hD0⟩ := hv
  have hx := B.exec
  have hb := B.bytes
  have hr := B.returns
  have hts := atoms_spec (ws := wsX6_put) B.pre
  have hown : s.vm.findClass RX6 = some m.cls := findClass_of_methodNamed B.named
  have hlocks := B.notSynchronized
  have hinX3 : ∀ w ∈ u_ws RX3 TX3 3, w ∈ wsX6_put := by decide +kernel
  have hinX6 : ∀ w ∈ u_ws RX6 TX6 5, w ∈ wsX6_put := by decide +kernel
  have hf32 := hts (.fieldLink RX6 32 "PulseSigns" "line" "LPulseSigns$Row;") (by decide +kernel)
  have hf161 := hts (.fieldLink RX6 161 "PulseSigns$Row" "length" "I") (by decide +kernel)
  subst hsz
  have hD := hD0.self (sz := s.heap.size)
  generalize hAe : va_A (PSW cI cS h sa sg tg tr ln fo ft fl fn ro tp tq per rea rn wo tn td rw wn od sr) s.heap.size = A at hD ⊢
  have hA : ∀ q : Nat, s.heap.size ≤ q → A q := fun q h => by rw [← hAe]; exact Or.inr h
  have hS : va_S A s.heap s.heap [] := va_S.rf
  have hP : va_P D vwCl (PSW cI cS h sa sg tg tr ln fo ft fl fn ro tp tq per rea rn wo tn td rw wn od sr) s.heap := hP
  have hKi := hK.sub [0] (tys' := [(cI, .int)]) rfl
  have hl := lv_entry ([.ref h, .int xv]) (n := 2) (Nat.le_of_ble_eq_true rfl)
  rw [lg_entry_eq]
  generalize (lg_sl ([.ref h, .int xv]) ++ List.replicate (2 - (lg_sl ([.ref h, .int xv])).length) Slot.unset).toArray = ls at hl ⊢
  refine w_Q (fun Q hQ => ?_)
  have hl : lv_has ls 2 [(0, .ref h), (1, .int xv)] := hl
  rw [fX6_put] at hF
  refine lv_iload_n hx hb dX6_put_0 rfl (lv_at hl 1 rfl) ?_
  refine lv_iconst (v := 0) hx hb dX6_put_1 (by decide) ?_
  refine lv_sipush (v := 10000) hx hb dX6_put_2 (by decide) ?_
  have hPc : va_P D vwCl [] s.heap := (pnil _ _ _)
  refine cs_i (va_runS (As := [.int xv, .int 0, .int 10000]) (rest := []) ⟨hx, hb, hml, hown, hts⟩ (c_X6_within l D cI xv 0 10000 ) (va_cwS 3 hts gX6_put_X6_within rfl rfl rfl (by decide +kernel) ⟨(Nat.le_of_ble_eq_true rfl), (Nat.le_of_ble_eq_true rfl)⟩) (ro_pre hPc hKi) rfl rfl hl.1 rfl (lv_room (Nat.le_of_ble_eq_true rfl)) dX6_put_5 ⟨Nat.zero_le _, Nat.zero_le _⟩) ?_
  refine lv_if_ne (tgt := 14) hx hb dX6_put_8 (by decide) (fun c8 => ?_) (fun c8 => ?_)
  · rw [if_neg c8] at hF
    refine lv_aload_n hx hb dX6_put_14 rfl (lv_at hl 0 rfl) ?_
    refine va_get (D := D) (ci := 4) (v := .ref wo) (C := RX6) (T := TX6) (N := 5) hx hb hts hinX6 hown hK.1 hP 0 rfl rfl 3 (by decide) hf32 (fun _ h9 => h9) rfl dX6_put_15 ?_
    refine lv_iload_n hx hb dX6_put_18 rfl (lv_at hl 1 rfl) ?_
    have hPc : va_P D vwCl [(wo, .inr (2, [.ref tn, .int (nI wn), .ref td])), (tn, .inl (cI, 64, .inl rw)), (td, .inl (cI, 16, .inl od))] s.heap := (pcons (i := 19) hP rfl (pcons (i := 20) hP rfl (pcons (i := 21) hP rfl (pnil _ _ _))))
    have hDc : va_D A [(wo, .inr (2, [.ref tn, .int (nI wn), .ref td])), (tn, .inl (cI, 64, .inl rw)), (td, .inl (cI, 16, .inl od))] := hD.sub [19, 20, 21] (by simp [va_nd] <;> omega) rfl
    refine cx_i (va_runV (As := [.int xv]) (rest := []) ⟨hx, hb, hml, hown, hts⟩ (c_X3_append l D cI s.heap.size wo tn td rw wn od xv (by first | assumption | omega)) (cwV 1 hts gX6_put_X3_append rfl rfl rfl (by decide +kernel) ⟨(Nat.le_of_ble_eq_true rfl), (Nat.le_of_ble_eq_true rfl)⟩) (wr_preV hPc hDc hKi rfl (q0 := 0) rfl) rfl rfl hl.1 rfl (lv_room (Nat.le_of_ble_eq_true rfl)) dX6_put_19 ⟨Nat.zero_le _, Nat.zero_le _⟩) hP hD hS hA [19, 20, 21] rfl [wo, tn, td] rfl rfl (fun H locs hP hD hS => ?_)
    have hP : va_P D vwCl (PSW cI cS h sa sg tg tr ln fo ft fl fn ro tp tq per rea rn wo tn td ((fX3_append rw wn xv).2.2) ((fX3_append rw wn xv).2.1) od sr) H := hP
    have hD : va_D A (PSW cI cS h sa sg tg tr ln fo ft fl fn ro tp tq per rea rn wo tn td ((fX3_append rw wn xv).2.2) ((fX3_append rw wn xv).2.1) od sr) := hD
    refine lv_if_eq (tgt := 35) hx hb dX6_put_22 (by decide) (fun c22 => ?_) (fun c22 => ?_)
    · rw [if_pos c22] at hF
      refine lv_bipush (v := (-104)) hx hb dX6_put_35 (by decide) ?_
      subst hF
      subst hQ
      exact W.iret (v := (-104)) hx hb hr (fun u9 ht hW => ⟨⟨_, (), rfl, rfl, by rw [← ht] at hP; exact hP⟩, hS.F ht⟩) hS.2.2 dX6_put_37
    · rw [if_neg c22] at hF
      refine lv_aload_n hx hb dX6_put_25 rfl (lv_at hl 0 rfl) ?_
      refine va_get (D := D) (ci := 4) (v := .ref wo) (C := RX6) (T := TX6) (N := 5) hx hb hts hinX6 hown hK.1 hP 0 rfl rfl 3 (by decide) hf32 (fun _ h9 => h9) rfl dX6_put_26 ?_
      refine va_get (D := D) (ci := 2) (v := .int (nI ((fX3_append rw wn xv).2.1))) (C := RX3) (T := TX3) (N := 3) hx hb hts hinX3 hown hK.1 hP 19 rfl rfl 1 (by decide) hf161 (fun _ h9 => h9) rfl dX6_put_29 ?_
      refine lv_goto (tgt := 37) hx hb dX6_put_32 (by decide) ?_
      subst hF
      subst hQ
      exact W.iret (v := nI ((fX3_append rw wn xv).2.1)) hx hb hr (fun u9 ht hW => ⟨⟨_, (), rfl, rfl, by rw [← ht] at hP; exact hP⟩, hS.F ht⟩) hS.2.2 dX6_put_37
  · rw [if_pos c8] at hF
    refine lv_bipush (v := (-102)) hx hb dX6_put_11 (by decide) ?_
    subst hF
    subst hQ
    exact W.iret (v := (-102)) hx hb hr (fun u9 ht hW => ⟨⟨_, (), rfl, rfl, by rw [← ht] at hP; exact hP⟩, hS.F ht⟩) hS.2.2 dX6_put_13
def fX6_empty (wn : Nat) : Int32 × Nat := (nI wn, 0)
abbrev rmX6_empty : Room := { frames := 0, cells := 0, slots := 0, locals := 0 }
set_option maxHeartbeats 4000000 in
set_option maxRecDepth 100000 in
theorem c_X6_empty (l : Launch) (D : va_G) (cI : ClassId) (cS : ClassId) (sz : Nat) (h : Nat) (sa : Nat) (sg : Nat → Nat) (tg : Nat → Nat) (tr : Nat → Nat → Int32) (ln : Nat → Nat) (fo : Nat) (ft : Nat) (fl : Nat → Int32) (fn : Nat) (ro : Nat) (tp : Nat) (tq : Nat) (per : Nat → Int32) (rea : Nat → Int32) (rn : Nat) (wo : Nat) (tn : Nat) (td : Nat) (rw : Nat → Int32) (wn : Nat) (od : Nat → Int32) (sr : Nat)  : Met l yX6_empty wsX6_empty rmX6_empty (va_Pc [.ref h] (wrP D [(cI, .int), (cS, .object RX5)] (PSW cI cS h sa sg tg tr ln fo ft fl fn ro tp tq per rea rn wo tn td rw wn od sr) sz)) (va_Qi (fun r9 (_ : Unit) => r9 = (fX6_empty wn).1) (fun _ u9 => va_P D vwCl (PSW cI cS h sa sg tg tr ln fo ft fl fn ro tp tq per rea rn wo tn td rw ((fX6_empty wn).2) od sr) u9.heap) (va_A (PSW cI cS h sa sg tg tr ln fo ft fl fn ro tp tq per rea rn wo tn td rw wn od sr) sz)) 0 0 (va_A (PSW cI cS h sa sg tg tr ln fo ft fl fn ro tp tq per rea rn wo tn td rw wn od sr) sz) := by
  generalize hF : fX6_empty wn = T
  refine Met.ofW (cc := cX6_empty) (maxL := 2) (ret := (some .int)) (by decide) rfl ?_
  intro p e s m args below meth c s₁ B hml hv
  obtain ⟨rfl, hsz, hP, hK, hD0⟩ := hv
  have hx := B.exec
  have hb := B.bytes
  have hr := B.returns
  have hts := atoms_spec (ws := wsX6_empty) B.pre
  have hown : s.vm.findClass RX6 = some m.cls := findClass_of_methodNamed B.named
  have hlocks := B.notSynchronized
  have hinX3 : ∀ w ∈ u_ws RX3 TX3 3, w ∈ wsX6_empty := by decide +kernel
  have hinX6 : ∀ w ∈ u_ws RX6 TX6 5, w ∈ wsX6_empty := by decide +kernel
  have hf32 := hts (.fieldLink RX6 32 "PulseSigns" "line" "LPulseSigns$Row;") (by decide +kernel)
  have hf161 := hts (.fieldLink RX6 161 "PulseSigns$Row" "length" "I") (by decide +kernel)
  subst hsz
  have hD := hD0.self (sz := s.heap.size)
  generalize hAe : va_A (PSW cI cS h sa sg tg tr ln fo ft fl fn ro tp tq per rea rn wo tn td rw wn od sr) s.heap.size = A at hD ⊢
  have hA : ∀ q : Nat, s.heap.size ≤ q → A q := fun q h => by rw [← hAe]; exact Or.inr h
  have hS : va_S A s.heap s.heap [] := va_S.rf
  have hP : va_P D vwCl (PSW cI cS h sa sg tg tr ln fo ft fl fn ro tp tq per rea rn wo tn td rw wn od sr) s.heap := hP
  have hKi := hK.sub [0] (tys' := [(cI, .int)]) rfl
  have hl := lv_entry ([.ref h]) (n := 2) (Nat.le_of_ble_eq_true rfl)
  rw [lg_entry_eq]
  generalize (lg_sl ([.ref h]) ++ List.replicate (2 - (lg_sl ([.ref h])).length) Slot.unset).toArray = ls at hl ⊢
  refine w_Q (fun Q hQ => ?_)
  have hl : lv_has ls 2 [(0, .ref h)] := hl
  rw [fX6_empty] at hF
  refine lv_aload_n hx hb dX6_empty_0 rfl (lv_at hl 0 rfl) ?_
  refine va_get (D := D) (ci := 4) (v := .ref wo) (C := RX6) (T := TX6) (N := 5) hx hb hts hinX6 hown hK.1 hP 0 rfl rfl 3 (by decide) hf32 (fun _ h9 => h9) rfl dX6_empty_1 ?_
  refine va_get (D := D) (ci := 2) (v := .int (nI wn)) (C := RX3) (T := TX3) (N := 3) hx hb hts hinX3 hown hK.1 hP 19 rfl rfl 1 (by decide) hf161 (fun _ h9 => h9) rfl dX6_empty_4 ?_
  refine lv_istore_n (lv' := [(1, .int (nI wn)), (0, .ref h)]) hx hb dX6_empty_7 rfl hl (by decide) rfl (fun ls hl => ?_)
  refine lv_aload_n hx hb dX6_empty_8 rfl (lv_at hl 1 rfl) ?_
  refine va_get (D := D) (ci := 4) (v := .ref wo) (C := RX6) (T := TX6) (N := 5) hx hb hts hinX6 hown hK.1 hP 0 rfl rfl 3 (by decide) hf32 (fun _ h9 => h9) rfl dX6_empty_9 ?_
  refine lv_iconst (v := 0) hx hb dX6_empty_12 (by decide) ?_
  refine va_put (D := D) (ci := 2) (v := .int 0) (ty := .int) (C := RX3) (T := TX3) (N := 3) hx hb hts hinX3 tyX3 tyX3_ok nmX3 hown hK.1 hP hD hS 19 rfl rfl 1 (by decide) hf161 (fun _ h9 => h9) rfl (by decide +kernel) rfl rfl (Nat.le_of_ble_eq_true rfl) dX6_empty_13 (fun H locs hP hD hS => ?_)
  have hP : va_P D vwCl (PSW cI cS h sa sg tg tr ln fo ft fl fn ro tp tq per rea rn wo tn td rw 0 od sr) H := hP
  have hD : va_D A (PSW cI cS h sa sg tg tr ln fo ft fl fn ro tp tq per rea rn wo tn td rw 0 od sr) := hD
  refine lv_iload_n hx hb dX6_empty_16 rfl (lv_at hl 0 rfl) ?_
  subst hF
  subst hQ
  exact W.iret (v := nI wn) hx hb hr (fun u9 ht hW => ⟨⟨_, (), rfl, rfl, by rw [← ht] at hP; exact hP⟩, hS.F ht⟩) hS.2.2 dX6_empty_17
def fX6_found (rw : Nat → Int32) (wn : Nat) (od : Nat → Int32) (xx : Int32) (xw : Int32) (xg : Int32) (xk : Int32) (sc : Int32) : Int32 × (Nat → Int32) := (if (fX6_within xx 0 ((nI wn) - 1)) = 0 then ((-101), od) else (if (fX3_maySeek xw xg xk sc) = 0 then ((-102), od) else (if ((fX3_standsOut rw wn od (xx.toNatClampNeg) (xw.toNatClampNeg) (xg.toNatClampNeg) (xk.toNatClampNeg) sc).1) = 0 then (0, (fX3_standsOut rw wn od (xx.toNatClampNeg) (xw.toNatClampNeg) (xg.toNatClampNeg) (xk.toNatClampNeg) sc).2) else (1, (fX3_standsOut rw wn od (xx.toNatClampNeg) (xw.toNatClampNeg) (xg.toNatClampNeg) (xk.toNatClampNeg) sc).2))))
abbrev rmX6_found : Room := { frames := 3, cells := 0, slots := 0, locals := 74 }
set_option maxHeartbeats 4000000 in
set_option maxRecDepth 100000 in
theorem c_X6_found (l : Launch) (D : va_G) (cI : ClassId) (cS : ClassId) (sz : Nat) (h : Nat) (sa : Nat) (sg : Nat → Nat) (tg : Nat → Nat) (tr : Nat → Nat → Int32) (ln : Nat → Nat) (fo : Nat) (ft : Nat) (fl : Nat → Int32) (fn : Nat) (ro : Nat) (tp : Nat) (tq : Nat) (per : Nat → Int32) (rea : Nat → Int32) (rn : Nat) (wo : Nat) (tn : Nat) (td : Nat) (rw : Nat → Int32) (wn : Nat) (od : Nat → Int32) (sr : Nat) (xx : Int32) (xw : Int32) (xg : Int32) (xk : Int32) (sc : Int32) (hwn : wn ≤ 64) : Met l yX6_found wsX6_found rmX6_found (va_Pc [.ref h, .int xx, .int xw, .int xg, .int xk, .int sc] (wrP D [(cI, .int), (cS, .object RX5)] (PSW cI cS h sa sg tg tr ln fo ft fl fn ro tp tq per rea rn wo tn td rw wn od sr) sz)) (va_Qi (fun r9 (_ : Unit) => r9 = (fX6_found rw wn od xx xw xg xk sc).1) (fun _ u9 => va_P D vwCl (PSW cI cS h sa sg tg tr ln fo ft fl fn ro tp tq per rea rn wo tn td rw wn ((fX6_found rw wn od xx xw xg xk sc).2) sr) u9.heap) (va_A (PSW cI cS h sa sg tg tr ln fo ft fl fn ro tp tq per rea rn wo tn td rw wn od sr) sz)) 0 0 (va_A (PSW cI cS h sa sg tg tr ln fo ft fl fn ro tp tq per rea rn wo tn td rw wn od sr) sz) := by
  generalize hF : fX6_found rw wn od xx xw xg xk sc = T
  refine Met.ofW (cc := cX6_found) (maxL := 6) (ret := (some .int)) (by decide) rfl ?_
  intro p e s m args below meth c s₁ B hml hv
  obtain ⟨rfl, hsz, hP, hK, hD0⟩ := hv
  have hx := B.exec
  have hb := B.bytes
  have hr := B.returns
  have hts := atoms_spec (ws := wsX6_found) B.pre
  have hown : s.vm.findClass RX6 = some m.cls := findClass_of_methodNamed B.named
  have hlocks := B.notSynchronized
  have hinX3 : ∀ w ∈ u_ws RX3 TX3 3, w ∈ wsX6_found := by decide +kernel
  have hinX6 : ∀ w ∈ u_ws RX6 TX6 5, w ∈ wsX6_found := by decide +kernel
  have hf32 := hts (.fieldLink RX6 32 "PulseSigns" "line" "LPulseSigns$Row;") (by decide +kernel)
  have hf161 := hts (.fieldLink RX6 161 "PulseSigns$Row" "length" "I") (by decide +kernel)
  subst hsz
  have hD := hD0.self (sz := s.heap.size)
  generalize hAe : va_A (PSW cI cS h sa sg tg tr ln fo ft fl fn ro tp tq per rea rn wo tn td rw wn od sr) s.heap.size = A at hD ⊢
  have hA : ∀ q : Nat, s.heap.size ≤ q → A q := fun q h => by rw [← hAe]; exact Or.inr h
  have hS : va_S A s.heap s.heap [] := va_S.rf
  have hP : va_P D vwCl (PSW cI cS h sa sg tg tr ln fo ft fl fn ro tp tq per rea rn wo tn td rw wn od sr) s.heap := hP
  have hKi := hK.sub [0] (tys' := [(cI, .int)]) rfl
  have hl := lv_entry ([.ref h, .int xx, .int xw, .int xg, .int xk, .int sc]) (n := 6) (Nat.le_of_ble_eq_true rfl)
  rw [lg_entry_eq]
  generalize (lg_sl ([.ref h, .int xx, .int xw, .int xg, .int xk, .int sc]) ++ List.replicate (6 - (lg_sl ([.ref h, .int xx, .int xw, .int xg, .int xk, .int sc])).length) Slot.unset).toArray = ls at hl ⊢
  refine w_Q (fun Q hQ => ?_)
  have hl : lv_has ls 6 [(0, .ref h), (1, .int xx), (2, .int xw), (3, .int xg), (4, .int xk), (5, .int sc)] := hl
  rw [fX6_found] at hF
  refine lv_iload_n hx hb dX6_found_0 rfl (lv_at hl 1 rfl) ?_
  refine lv_iconst (v := 0) hx hb dX6_found_1 (by decide) ?_
  refine lv_aload_n hx hb dX6_found_2 rfl (lv_at hl 0 rfl) ?_
  refine va_get (D := D) (ci := 4) (v := .ref wo) (C := RX6) (T := TX6) (N := 5) hx hb hts hinX6 hown hK.1 hP 0 rfl rfl 3 (by decide) hf32 (fun _ h9 => h9) rfl dX6_found_3 ?_
  refine va_get (D := D) (ci := 2) (v := .int (nI wn)) (C := RX3) (T := TX3) (N := 3) hx hb hts hinX3 hown hK.1 hP 19 rfl rfl 1 (by decide) hf161 (fun _ h9 => h9) rfl dX6_found_6 ?_
  refine lv_iconst (v := 1) hx hb dX6_found_9 (by decide) ?_
  refine lv_isub hx hb dX6_found_10 ?_
  have hPc : va_P D vwCl [] s.heap := (pnil _ _ _)
  refine cs_i (va_runS (As := [.int xx, .int 0, .int ((nI wn) - 1)]) (rest := []) ⟨hx, hb, hml, hown, hts⟩ (c_X6_within l D cI xx 0 ((nI wn) - 1) ) (va_cwS 3 hts gX6_found_X6_within rfl rfl rfl (by decide +kernel) ⟨(Nat.le_of_ble_eq_true rfl), (Nat.le_of_ble_eq_true rfl)⟩) (ro_pre hPc hKi) rfl rfl hl.1 rfl (lv_room (Nat.le_of_ble_eq_true rfl)) dX6_found_11 ⟨Nat.zero_le _, Nat.zero_le _⟩) ?_
  refine lv_if_ne (tgt := 20) hx hb dX6_found_14 (by decide) (fun c14 => ?_) (fun c14 => ?_)
  · rw [if_neg c14] at hF
    obtain ⟨xq, hxq, rfl⟩ := wt_m1 c14 (by omega)
    have e_xq : (nI xq).toNatClampNeg = xq := nI_clamp (by omega)
    try simp only [e_xq] at hF
    refine lv_iload_n hx hb dX6_found_20 rfl (lv_at hl 2 rfl) ?_
    refine lv_iload_n hx hb dX6_found_21 rfl (lv_at hl 3 rfl) ?_
    refine lv_iload hx hb dX6_found_22 (lv_at hl 4 rfl) ?_
    refine lv_iload hx hb dX6_found_24 (lv_at hl 5 rfl) ?_
    have hPc : va_P D vwCl [] s.heap := (pnil _ _ _)
    refine cs_i (va_runS (As := [.int xw, .int xg, .int xk, .int sc]) (rest := []) ⟨hx, hb, hml, hown, hts⟩ (c_X3_maySeek l D cI xw xg xk sc ) (va_cwS 4 hts gX6_found_X3_maySeek rfl rfl rfl (by decide +kernel) ⟨(Nat.le_of_ble_eq_true rfl), (Nat.le_of_ble_eq_true rfl)⟩) (ro_pre hPc hKi) rfl rfl hl.1 rfl (lv_room (Nat.le_of_ble_eq_true rfl)) dX6_found_26 ⟨Nat.zero_le _, Nat.zero_le _⟩) ?_
    refine lv_if_ne (tgt := 35) hx hb dX6_found_29 (by decide) (fun c29 => ?_) (fun c29 => ?_)
    · rw [if_neg c29] at hF
      obtain ⟨wq, gq, kq, hwq, hgq, hkq, rfl, rfl, rfl⟩ := seek_nat c29
      have e_wq : (nI wq).toNatClampNeg = wq := nI_clamp (by omega)
      try simp only [e_wq] at hF
      skip
      have e_gq : (nI gq).toNatClampNeg = gq := nI_clamp (by omega)
      try simp only [e_gq] at hF
      skip
      have e_kq : (nI kq).toNatClampNeg = kq := nI_clamp (by omega)
      try simp only [e_kq] at hF
      refine lv_aload_n hx hb dX6_found_35 rfl (lv_at hl 0 rfl) ?_
      refine va_get (D := D) (ci := 4) (v := .ref wo) (C := RX6) (T := TX6) (N := 5) hx hb hts hinX6 hown hK.1 hP 0 rfl rfl 3 (by decide) hf32 (fun _ h9 => h9) rfl dX6_found_36 ?_
      refine lv_iload_n hx hb dX6_found_39 rfl (lv_at hl 1 rfl) ?_
      refine lv_iload_n hx hb dX6_found_40 rfl (lv_at hl 2 rfl) ?_
      refine lv_iload_n hx hb dX6_found_41 rfl (lv_at hl 3 rfl) ?_
      refine lv_iload hx hb dX6_found_42 (lv_at hl 4 rfl) ?_
      refine lv_iload hx hb dX6_found_44 (lv_at hl 5 rfl) ?_
      have hPc : va_P D vwCl [(wo, .inr (2, [.ref tn, .int (nI wn), .ref td])), (tn, .inl (cI, 64, .inl rw)), (td, .inl (cI, 16, .inl od))] s.heap := (pcons (i := 19) hP rfl (pcons (i := 20) hP rfl (pcons (i := 21) hP rfl (pnil _ _ _))))
      have hDc : va_D A [(wo, .inr (2, [.ref tn, .int (nI wn), .ref td])), (tn, .inl (cI, 64, .inl rw)), (td, .inl (cI, 16, .inl od))] := hD.sub [19, 20, 21] (by simp [va_nd] <;> omega) rfl
      refine cx_i (va_runV (As := [.int (nI xq), .int (nI wq), .int (nI gq), .int (nI kq), .int sc]) (rest := []) ⟨hx, hb, hml, hown, hts⟩ (c_X3_standsOut l D cI s.heap.size wo tn td rw wn od xq wq gq kq sc (by first | assumption | omega) (by first | assumption | omega) (by first | assumption | omega) (by first | assumption | omega) (by first | assumption | omega) (by first | assumption | omega)) (cwV 5 hts gX6_found_X3_standsOut rfl rfl rfl (by decide +kernel) ⟨(Nat.le_of_ble_eq_true rfl), (Nat.le_of_ble_eq_true rfl)⟩) (wr_preV hPc hDc hKi rfl (q0 := 0) rfl) rfl rfl hl.1 rfl (lv_room (Nat.le_of_ble_eq_true rfl)) dX6_found_46 ⟨Nat.zero_le _, Nat.zero_le _⟩) hP hD hS hA [19, 20, 21] rfl [wo, tn, td] rfl rfl (fun H locs hP hD hS => ?_)
      have hP : va_P D vwCl (PSW cI cS h sa sg tg tr ln fo ft fl fn ro tp tq per rea rn wo tn td rw wn ((fX3_standsOut rw wn od xq wq gq kq sc).2) sr) H := hP
      have hD : va_D A (PSW cI cS h sa sg tg tr ln fo ft fl fn ro tp tq per rea rn wo tn td rw wn ((fX3_standsOut rw wn od xq wq gq kq sc).2) sr) := hD
      refine lv_if_eq (tgt := 56) hx hb dX6_found_49 (by decide) (fun c49 => ?_) (fun c49 => ?_)
      · rw [if_pos c49] at hF
        refine lv_iconst (v := 0) hx hb dX6_found_56 (by decide) ?_
        subst hF
        subst hQ
        exact W.iret (v := 0) hx hb hr (fun u9 ht hW => ⟨⟨_, (), rfl, rfl, by rw [← ht] at hP; exact hP⟩, hS.F ht⟩) hS.2.2 dX6_found_57
      · rw [if_neg c49] at hF
        refine lv_iconst (v := 1) hx hb dX6_found_52 (by decide) ?_
        refine lv_goto (tgt := 57) hx hb dX6_found_53 (by decide) ?_
        subst hF
        subst hQ
        exact W.iret (v := 1) hx hb hr (fun u9 ht hW => ⟨⟨_, (), rfl, rfl, by rw [← ht] at hP; exact hP⟩, hS.F ht⟩) hS.2.2 dX6_found_57
    · rw [if_pos c29] at hF
      refine lv_bipush (v := (-102)) hx hb dX6_found_32 (by decide) ?_
      subst hF
      subst hQ
      exact W.iret (v := (-102)) hx hb hr (fun u9 ht hW => ⟨⟨_, (), rfl, rfl, by rw [← ht] at hP; exact hP⟩, hS.F ht⟩) hS.2.2 dX6_found_34
  · rw [if_pos c14] at hF
    refine lv_bipush (v := (-101)) hx hb dX6_found_17 (by decide) ?_
    subst hF
    subst hQ
    exact W.iret (v := (-101)) hx hb hr (fun u9 ht hW => ⟨⟨_, (), rfl, rfl, by rw [← ht] at hP; exact hP⟩, hS.F ht⟩) hS.2.2 dX6_found_19
def fX6_count (rw : Nat → Int32) (wn : Nat) (od : Nat → Int32) (xw : Int32) (xg : Int32) (xk : Int32) (sc : Int32) : Int32 × (Nat → Int32) := (if (fX3_maySeek xw xg xk sc) = 0 then ((-102), od) else ((fX3_standingOut rw wn od (xw.toNatClampNeg) (xg.toNatClampNeg) (xk.toNatClampNeg) sc).1, (fX3_standingOut rw wn od (xw.toNatClampNeg) (xg.toNatClampNeg) (xk.toNatClampNeg) sc).2))
abbrev rmX6_count : Room := { frames := 4, cells := 0, slots := 0, locals := 100 }
set_option maxHeartbeats 4000000 in
set_option maxRecDepth 100000 in
theorem c_X6_count (l : Launch) (D : va_G) (cI : ClassId) (cS : ClassId) (sz : Nat) (h : Nat) (sa : Nat) (sg : Nat → Nat) (tg : Nat → Nat) (tr : Nat → Nat → Int32) (ln : Nat → Nat) (fo : Nat) (ft : Nat) (fl : Nat → Int32) (fn : Nat) (ro : Nat) (tp : Nat) (tq : Nat) (per : Nat → Int32) (rea : Nat → Int32) (rn : Nat) (wo : Nat) (tn : Nat) (td : Nat) (rw : Nat → Int32) (wn : Nat) (od : Nat → Int32) (sr : Nat) (xw : Int32) (xg : Int32) (xk : Int32) (sc : Int32) (hwn : wn ≤ 64) : Met l yX6_count wsX6_count rmX6_count (va_Pc [.ref h, .int xw, .int xg, .int xk, .int sc] (wrP D [(cI, .int), (cS, .object RX5)] (PSW cI cS h sa sg tg tr ln fo ft fl fn ro tp tq per rea rn wo tn td rw wn od sr) sz)) (va_Qi (fun r9 (_ : Unit) => r9 = (fX6_count rw wn od xw xg xk sc).1) (fun _ u9 => va_P D vwCl (PSW cI cS h sa sg tg tr ln fo ft fl fn ro tp tq per rea rn wo tn td rw wn ((fX6_count rw wn od xw xg xk sc).2) sr) u9.heap) (va_A (PSW cI cS h sa sg tg tr ln fo ft fl fn ro tp tq per rea rn wo tn td rw wn od sr) sz)) 0 0 (va_A (PSW cI cS h sa sg tg tr ln fo ft fl fn ro tp tq per rea rn wo tn td rw wn od sr) sz) := by
  generalize hF : fX6_count rw wn od xw xg xk sc = T
  refine Met.ofW (cc := cX6_count) (maxL := 5) (ret := (some .int)) (by decide) rfl ?_
  intro p e s m args below meth c s₁ B hml hv
  obtain ⟨rfl, hsz, hP, hK, hD0⟩ := hv
  have hx := B.exec
  have hb := B.bytes
  have hr := B.returns
  have hts := atoms_spec (ws := wsX6_count) B.pre
  have hown : s.vm.findClass RX6 = some m.cls := findClass_of_methodNamed B.named
  have hlocks := B.notSynchronized
  have hinX6 : ∀ w ∈ u_ws RX6 TX6 5, w ∈ wsX6_count := by decide +kernel
  have hf32 := hts (.fieldLink RX6 32 "PulseSigns" "line" "LPulseSigns$Row;") (by decide +kernel)
  subst hsz
  have hD := hD0.self (sz := s.heap.size)
  generalize hAe : va_A (PSW cI cS h sa sg tg tr ln fo ft fl fn ro tp tq per rea rn wo tn td rw wn od sr) s.heap.size = A at hD ⊢
  have hA : ∀ q : Nat, s.heap.size ≤ q → A q := fun q h => by rw [← hAe]; exact Or.inr h
  have hS : va_S A s.heap s.heap [] := va_S.rf
  have hP : va_P D vwCl (PSW cI cS h sa sg tg tr ln fo ft fl fn ro tp tq per rea rn wo tn td rw wn od sr) s.heap := hP
  have hKi := hK.sub [0] (tys' := [(cI, .int)]) rfl
  have hl := lv_entry ([.ref h, .int xw, .int xg, .int xk, .int sc]) (n := 5) (Nat.le_of_ble_eq_true rfl)
  rw [lg_entry_eq]
  generalize (lg_sl ([.ref h, .int xw, .int xg, .int xk, .int sc]) ++ List.replicate (5 - (lg_sl ([.ref h, .int xw, .int xg, .int xk, .int sc])).length) Slot.unset).toArray = ls at hl ⊢
  refine w_Q (fun Q hQ => ?_)
  have hl : lv_has ls 5 [(0, .ref h), (1, .int xw), (2, .int xg), (3, .int xk), (4, .int sc)] := hl
  rw [fX6_count] at hF
  refine lv_iload_n hx hb dX6_count_0 rfl (lv_at hl 1 rfl) ?_
  refine lv_iload_n hx hb dX6_count_1 rfl (lv_at hl 2 rfl) ?_
  refine lv_iload_n hx hb dX6_count_2 rfl (lv_at hl 3 rfl) ?_
  refine lv_iload hx hb dX6_count_3 (lv_at hl 4 rfl) ?_
  have hPc : va_P D vwCl [] s.heap := (pnil _ _ _)
  refine cs_i (va_runS (As := [.int xw, .int xg, .int xk, .int sc]) (rest := []) ⟨hx, hb, hml, hown, hts⟩ (c_X3_maySeek l D cI xw xg xk sc ) (va_cwS 4 hts gX6_count_X3_maySeek rfl rfl rfl (by decide +kernel) ⟨(Nat.le_of_ble_eq_true rfl), (Nat.le_of_ble_eq_true rfl)⟩) (ro_pre hPc hKi) rfl rfl hl.1 rfl (lv_room (Nat.le_of_ble_eq_true rfl)) dX6_count_5 ⟨Nat.zero_le _, Nat.zero_le _⟩) ?_
  refine lv_if_eq (tgt := 26) hx hb dX6_count_8 (by decide) (fun c8 => ?_) (fun c8 => ?_)
  · rw [if_pos c8] at hF
    refine lv_bipush (v := (-102)) hx hb dX6_count_26 (by decide) ?_
    subst hF
    subst hQ
    exact W.iret (v := (-102)) hx hb hr (fun u9 ht hW => ⟨⟨_, (), rfl, rfl, by rw [← ht] at hP; exact hP⟩, hS.F ht⟩) hS.2.2 dX6_count_28
  · rw [if_neg c8] at hF
    obtain ⟨wq, gq, kq, hwq, hgq, hkq, rfl, rfl, rfl⟩ := seek_nat c8
    have e_wq : (nI wq).toNatClampNeg = wq := nI_clamp (by omega)
    try simp only [e_wq] at hF
    skip
    have e_gq : (nI gq).toNatClampNeg = gq := nI_clamp (by omega)
    try simp only [e_gq] at hF
    skip
    have e_kq : (nI kq).toNatClampNeg = kq := nI_clamp (by omega)
    try simp only [e_kq] at hF
    refine lv_aload_n hx hb dX6_count_11 rfl (lv_at hl 0 rfl) ?_
    refine va_get (D := D) (ci := 4) (v := .ref wo) (C := RX6) (T := TX6) (N := 5) hx hb hts hinX6 hown hK.1 hP 0 rfl rfl 3 (by decide) hf32 (fun _ h9 => h9) rfl dX6_count_12 ?_
    refine lv_iload_n hx hb dX6_count_15 rfl (lv_at hl 1 rfl) ?_
    refine lv_iload_n hx hb dX6_count_16 rfl (lv_at hl 2 rfl) ?_
    refine lv_iload_n hx hb dX6_count_17 rfl (lv_at hl 3 rfl) ?_
    refine lv_iload hx hb dX6_count_18 (lv_at hl 4 rfl) ?_
    have hPc : va_P D vwCl [(wo, .inr (2, [.ref tn, .int (nI wn), .ref td])), (tn, .inl (cI, 64, .inl rw)), (td, .inl (cI, 16, .inl od))] s.heap := (pcons (i := 19) hP rfl (pcons (i := 20) hP rfl (pcons (i := 21) hP rfl (pnil _ _ _))))
    have hDc : va_D A [(wo, .inr (2, [.ref tn, .int (nI wn), .ref td])), (tn, .inl (cI, 64, .inl rw)), (td, .inl (cI, 16, .inl od))] := hD.sub [19, 20, 21] (by simp [va_nd] <;> omega) rfl
    refine cx_i (va_runV (As := [.int (nI wq), .int (nI gq), .int (nI kq), .int sc]) (rest := []) ⟨hx, hb, hml, hown, hts⟩ (c_X3_standingOut l D cI s.heap.size wo tn td rw wn od wq gq kq sc (by first | assumption | omega) (by first | assumption | omega) (by first | assumption | omega) (by first | assumption | omega) (by first | assumption | omega)) (cwV 4 hts gX6_count_X3_standingOut rfl rfl rfl (by decide +kernel) ⟨(Nat.le_of_ble_eq_true rfl), (Nat.le_of_ble_eq_true rfl)⟩) (wr_preV hPc hDc hKi rfl (q0 := 0) rfl) rfl rfl hl.1 rfl (lv_room (Nat.le_of_ble_eq_true rfl)) dX6_count_20 ⟨Nat.zero_le _, Nat.zero_le _⟩) hP hD hS hA [19, 20, 21] rfl [wo, tn, td] rfl rfl (fun H locs hP hD hS => ?_)
    have hP : va_P D vwCl (PSW cI cS h sa sg tg tr ln fo ft fl fn ro tp tq per rea rn wo tn td rw wn ((fX3_standingOut rw wn od wq gq kq sc).2) sr) H := hP
    have hD : va_D A (PSW cI cS h sa sg tg tr ln fo ft fl fn ro tp tq per rea rn wo tn td rw wn ((fX3_standingOut rw wn od wq gq kq sc).2) sr) := hD
    refine lv_goto (tgt := 28) hx hb dX6_count_23 (by decide) ?_
    subst hF
    subst hQ
    exact W.iret (v := (fX3_standingOut rw wn od wq gq kq sc).1) hx hb hr (fun u9 ht hW => ⟨⟨_, (), rfl, rfl, by rw [← ht] at hP; exact hP⟩, hS.F ht⟩) hS.2.2 dX6_count_28
def fX6_share (xn : Int32) (xk : Int32) (xs : Int32) (xp : Int32) : Int64 := (if (fX0_mayOrder xn xk) = 0 then (-102) else (if (fX6_within xs 1 40) = 0 then (-102) else (if (fX6_isPart xp) = 0 then (-102) else (if xp = 0 then (fX0_product xn (xk.toNatClampNeg) 0) / (fX6_commonDivisor (fX0_product xn (xk.toNatClampNeg) 0) (fX0_product xn (xk.toNatClampNeg) xs)) else (fX0_product xn (xk.toNatClampNeg) xs) / (fX6_commonDivisor (fX0_product xn (xk.toNatClampNeg) 0) (fX0_product xn (xk.toNatClampNeg) xs))))))
abbrev rmX6_share : Room := { frames := 2, cells := 0, slots := 0, locals := 43 }
set_option maxHeartbeats 4000000 in
set_option maxRecDepth 100000 in
theorem c_X6_share (l : Launch) (D : va_G) (cI : ClassId) (cS : ClassId) (h : Nat) (sa : Nat) (sg : Nat → Nat) (tg : Nat → Nat) (tr : Nat → Nat → Int32) (ln : Nat → Nat) (fo : Nat) (ft : Nat) (fl : Nat → Int32) (fn : Nat) (ro : Nat) (tp : Nat) (tq : Nat) (per : Nat → Int32) (rea : Nat → Int32) (rn : Nat) (wo : Nat) (tn : Nat) (td : Nat) (rw : Nat → Int32) (wn : Nat) (od : Nat → Int32) (sr : Nat) (xn : Int32) (xk : Int32) (xs : Int32) (xp : Int32)  : Met l yX6_share wsX6_share rmX6_share (va_Pc [.ref h, .int xn, .int xk, .int xs, .int xp] (roP D [(cI, .int), (cS, .object RX5)] (PSW cI cS h sa sg tg tr ln fo ft fl fn ro tp tq per rea rn wo tn td rw wn od sr))) (vp_Sl (fun r9 => r9 = fX6_share xn xk xs xp)) 0 0 (fun _ => False) := by
  generalize hF : fX6_share xn xk xs xp = T
  refine Met.ofW (cc := cX6_share) (maxL := 11) (ret := (some .long)) (by decide) rfl ?_
  intro p e s m args below meth c s₁ B hml hv
  obtain ⟨rfl, hP, hK⟩ := hv
  have hx := B.exec
  have hb := B.bytes
  have hr := B.returns
  have hts := atoms_spec (ws := wsX6_share) B.pre
  have hown : s.vm.findClass RX6 = some m.cls := findClass_of_methodNamed B.named
  have hlocks := B.notSynchronized
  have hcst179 := hts (.constantLong RX6 179 (-102)) (by decide +kernel)
  have hKi := hK.sub [0] (tys' := [(cI, .int)]) rfl
  have hl := lv_entry ([.ref h, .int xn, .int xk, .int xs, .int xp]) (n := 11) (Nat.le_of_ble_eq_true rfl)
  rw [lg_entry_eq]
  generalize (lg_sl ([.ref h, .int xn, .int xk, .int xs, .int xp]) ++ List.replicate (11 - (lg_sl ([.ref h, .int xn, .int xk, .int xs, .int xp])).length) Slot.unset).toArray = ls at hl ⊢
  refine w_Q (fun Q hQ => ?_)
  have hl : lv_has ls 11 [(0, .ref h), (1, .int xn), (2, .int xk), (3, .int xs), (4, .int xp)] := hl
  rw [fX6_share] at hF
  refine lv_iload_n hx hb dX6_share_0 rfl (lv_at hl 1 rfl) ?_
  refine lv_iload_n hx hb dX6_share_1 rfl (lv_at hl 2 rfl) ?_
  have hPc : va_P D vwCl [] s.heap := (pnil _ _ _)
  refine cs_i (va_runS (As := [.int xn, .int xk]) (rest := []) ⟨hx, hb, hml, hown, hts⟩ (c_X0_mayOrder l D cI xn xk ) (va_cwS 2 hts gX6_share_X0_mayOrder rfl rfl rfl (by decide +kernel) ⟨(Nat.le_of_ble_eq_true rfl), (Nat.le_of_ble_eq_true rfl)⟩) (ro_pre hPc hKi) rfl rfl hl.1 rfl (lv_room (Nat.le_of_ble_eq_true rfl)) dX6_share_2 ⟨Nat.zero_le _, Nat.zero_le _⟩) ?_
  refine lv_if_eq (tgt := 26) hx hb dX6_share_5 (by decide) (fun c5 => ?_) (fun c5 => ?_)
  · rw [if_pos c5] at hF
    refine lv_ldc2 (v := (-102)) hx hb hown hcst179 dX6_share_26 ?_
    subst hQ
    exact W.lret (v := (-102)) hx hb hr (fun u9 ht hW => ⟨_, rfl, hF, ht⟩) (fun q hq => by cases hq) dX6_share_29
  · rw [if_neg c5] at hF
    refine lv_iload_n hx hb dX6_share_8 rfl (lv_at hl 3 rfl) ?_
    refine lv_iconst (v := 1) hx hb dX6_share_9 (by decide) ?_
    refine lv_bipush (v := 40) hx hb dX6_share_10 (by decide) ?_
    have hPc : va_P D vwCl [] s.heap := (pnil _ _ _)
    refine cs_i (va_runS (As := [.int xs, .int 1, .int 40]) (rest := []) ⟨hx, hb, hml, hown, hts⟩ (c_X6_within l D cI xs 1 40 ) (va_cwS 3 hts gX6_share_X6_within rfl rfl rfl (by decide +kernel) ⟨(Nat.le_of_ble_eq_true rfl), (Nat.le_of_ble_eq_true rfl)⟩) (ro_pre hPc hKi) rfl rfl hl.1 rfl (lv_room (Nat.le_of_ble_eq_true rfl)) dX6_share_12 ⟨Nat.zero_le _, Nat.zero_le _⟩) ?_
    refine lv_if_eq (tgt := 26) hx hb dX6_share_15 (by decide) (fun c15 => ?_) (fun c15 => ?_)
    · rw [if_pos c15] at hF
      refine lv_ldc2 (v := (-102)) hx hb hown hcst179 dX6_share_26 ?_
      subst hQ
      exact W.lret (v := (-102)) hx hb hr (fun u9 ht hW => ⟨_, rfl, hF, ht⟩) (fun q hq => by cases hq) dX6_share_29
    · rw [if_neg c15] at hF
      refine lv_iload hx hb dX6_share_18 (lv_at hl 4 rfl) ?_
      have hPc : va_P D vwCl [] s.heap := (pnil _ _ _)
      refine cs_i (va_runS (As := [.int xp]) (rest := []) ⟨hx, hb, hml, hown, hts⟩ (c_X6_isPart l D cI xp ) (va_cwS 1 hts gX6_share_X6_isPart rfl rfl rfl (by decide +kernel) ⟨(Nat.le_of_ble_eq_true rfl), (Nat.le_of_ble_eq_true rfl)⟩) (ro_pre hPc hKi) rfl rfl hl.1 rfl (lv_room (Nat.le_of_ble_eq_true rfl)) dX6_share_20 ⟨Nat.zero_le _, Nat.zero_le _⟩) ?_
      refine lv_if_ne (tgt := 30) hx hb dX6_share_23 (by decide) (fun c23 => ?_) (fun c23 => ?_)
      · rw [if_neg c23] at hF
        obtain ⟨kn, hkn1, hkn, rfl⟩ := ord_nat c5
        have e_kn : (nI kn).toNatClampNeg = kn := nI_clamp (by omega)
        try simp only [e_kn] at hF
        refine lv_iload_n hx hb dX6_share_30 rfl (lv_at hl 1 rfl) ?_
        refine lv_iload_n hx hb dX6_share_31 rfl (lv_at hl 2 rfl) ?_
        refine lv_iconst (v := 0) hx hb dX6_share_32 (by decide) ?_
        have hPc : va_P D vwCl [] s.heap := (pnil _ _ _)
        refine cs_l (va_runS (As := [.int xn, .int (nI kn), .int 0]) (rest := []) ⟨hx, hb, hml, hown, hts⟩ (c_X0_product l D cI xn kn 0 (by first | assumption | omega)) (va_cwS 3 hts gX6_share_X0_product rfl rfl rfl (by decide +kernel) ⟨(Nat.le_of_ble_eq_true rfl), (Nat.le_of_ble_eq_true rfl)⟩) (ro_pre hPc hKi) rfl rfl hl.1 rfl (lv_room (Nat.le_of_ble_eq_true rfl)) dX6_share_33 ⟨Nat.zero_le _, Nat.zero_le _⟩) ?_
        refine lv_lstore (lv' := [(5, .long (fX0_product xn kn 0)), (0, .ref h), (1, .int xn), (2, .int (nI kn)), (3, .int xs), (4, .int xp)]) hx hb dX6_share_36 hl (by decide) rfl (fun ls hl => ?_)
        refine lv_iload_n hx hb dX6_share_38 rfl (lv_at hl 2 rfl) ?_
        refine lv_iload_n hx hb dX6_share_39 rfl (lv_at hl 3 rfl) ?_
        refine lv_iload_n hx hb dX6_share_40 rfl (lv_at hl 4 rfl) ?_
        have hPc : va_P D vwCl [] s.heap := (pnil _ _ _)
        refine cs_l (va_runS (As := [.int xn, .int (nI kn), .int xs]) (rest := []) ⟨hx, hb, hml, hown, hts⟩ (c_X0_product l D cI xn kn xs (by first | assumption | omega)) (va_cwS 3 hts gX6_share_X0_product rfl rfl rfl (by decide +kernel) ⟨(Nat.le_of_ble_eq_true rfl), (Nat.le_of_ble_eq_true rfl)⟩) (ro_pre hPc hKi) rfl rfl hl.1 rfl (lv_room (Nat.le_of_ble_eq_true rfl)) dX6_share_41 ⟨Nat.zero_le _, Nat.zero_le _⟩) ?_
        refine lv_lstore (lv' := [(7, .long (fX0_product xn kn xs)), (5, .long (fX0_product xn kn 0)), (0, .ref h), (1, .int xn), (2, .int (nI kn)), (3, .int xs), (4, .int xp)]) hx hb dX6_share_44 hl (by decide) rfl (fun ls hl => ?_)
        refine lv_lload hx hb dX6_share_46 (lv_at hl 1 rfl) ?_
        refine lv_lload hx hb dX6_share_48 (lv_at hl 0 rfl) ?_
        have hPc : va_P D vwCl [] s.heap := (pnil _ _ _)
        refine cs_l (va_runS (As := [.long (fX0_product xn kn 0), .long (fX0_product xn kn xs)]) (rest := []) ⟨hx, hb, hml, hown, hts⟩ (c_X6_commonDivisor l D cI (fX0_product xn kn 0) (fX0_product xn kn xs) ) (va_cwS 2 hts gX6_share_X6_commonDivisor rfl rfl rfl (by decide +kernel) ⟨(Nat.le_of_ble_eq_true rfl), (Nat.le_of_ble_eq_true rfl)⟩) (ro_pre hPc hKi) rfl rfl hl.1 rfl (lv_room (Nat.le_of_ble_eq_true rfl)) dX6_share_50 ⟨Nat.zero_le _, Nat.zero_le _⟩) ?_
        refine lv_lstore (lv' := [(9, .long (fX6_commonDivisor (fX0_product xn kn 0) (fX0_product xn kn xs))), (7, .long (fX0_product xn kn xs)), (5, .long (fX0_product xn kn 0)), (0, .ref h), (1, .int xn), (2, .int (nI kn)), (3, .int xs), (4, .int xp)]) hx hb dX6_share_53 hl (by decide) rfl (fun ls hl => ?_)
        refine lv_iload hx hb dX6_share_55 (lv_at hl 7 rfl) ?_
        refine lv_if_ne (tgt := 65) hx hb dX6_share_57 (by decide) (fun c57 => ?_) (fun c57 => ?_)
        · rw [if_neg c57] at hF
          refine lv_lload hx hb dX6_share_65 (lv_at hl 1 rfl) ?_
          refine lv_lload hx hb dX6_share_67 (lv_at hl 0 rfl) ?_
          refine lv_ldiv hx hb dX6_share_69 (cd_ne _ _) ?_
          subst hQ
          exact W.lret (v := (fX0_product xn kn xs) / (fX6_commonDivisor (fX0_product xn kn 0) (fX0_product xn kn xs))) hx hb hr (fun u9 ht hW => ⟨_, rfl, hF, ht⟩) (fun q hq => by cases hq) dX6_share_70
        · rw [if_pos c57] at hF
          refine lv_lload hx hb dX6_share_60 (lv_at hl 2 rfl) ?_
          refine lv_goto (tgt := 67) hx hb dX6_share_62 (by decide) ?_
          refine lv_lload hx hb dX6_share_67 (lv_at hl 0 rfl) ?_
          refine lv_ldiv hx hb dX6_share_69 (cd_ne _ _) ?_
          subst hQ
          exact W.lret (v := (fX0_product xn kn 0) / (fX6_commonDivisor (fX0_product xn kn 0) (fX0_product xn kn xs))) hx hb hr (fun u9 ht hW => ⟨_, rfl, hF, ht⟩) (fun q hq => by cases hq) dX6_share_70
      · rw [if_pos c23] at hF
        refine lv_ldc2 (v := (-102)) hx hb hown hcst179 dX6_share_26 ?_
        subst hQ
        exact W.lret (v := (-102)) hx hb hr (fun u9 ht hW => ⟨_, rfl, hF, ht⟩) (fun q hq => by cases hq) dX6_share_29
def fX6_scale (xn : Int32) (xk : Int32) (u : Int32) : Int32 := (if (fX0_mayOrder xn xk) = 0 then (-102) else (if (fX6_within u 1 1000000000) = 0 then (-102) else fX0_leastScale xn (xk.toNatClampNeg) u))
abbrev rmX6_scale : Room := { frames := 2, cells := 0, slots := 0, locals := 50 }
set_option maxHeartbeats 4000000 in
set_option maxRecDepth 100000 in
theorem c_X6_scale (l : Launch) (D : va_G) (cI : ClassId) (cS : ClassId) (h : Nat) (sa : Nat) (sg : Nat → Nat) (tg : Nat → Nat) (tr : Nat → Nat → Int32) (ln : Nat → Nat) (fo : Nat) (ft : Nat) (fl : Nat → Int32) (fn : Nat) (ro : Nat) (tp : Nat) (tq : Nat) (per : Nat → Int32) (rea : Nat → Int32) (rn : Nat) (wo : Nat) (tn : Nat) (td : Nat) (rw : Nat → Int32) (wn : Nat) (od : Nat → Int32) (sr : Nat) (xn : Int32) (xk : Int32) (u : Int32)  : Met l yX6_scale wsX6_scale rmX6_scale (va_Pc [.ref h, .int xn, .int xk, .int u] (roP D [(cI, .int), (cS, .object RX5)] (PSW cI cS h sa sg tg tr ln fo ft fl fn ro tp tq per rea rn wo tn td rw wn od sr))) (vp_Si (fun r9 => r9 = fX6_scale xn xk u)) 0 0 (fun _ => False) := by
  generalize hF : fX6_scale xn xk u = T
  refine Met.ofW (cc := cX6_scale) (maxL := 4) (ret := (some .int)) (by decide) rfl ?_
  intro p e s m args below meth c s₁ B hml hv
  obtain ⟨rfl, hP, hK⟩ := hv
  have hx := B.exec
  have hb := B.bytes
  have hr := B.returns
  have hts := atoms_spec (ws := wsX6_scale) B.pre
  have hown : s.vm.findClass RX6 = some m.cls := findClass_of_methodNamed B.named
  have hlocks := B.notSynchronized
  have hcst189 := hts (.constant RX6 189 1000000000) (by decide +kernel)
  have hKi := hK.sub [0] (tys' := [(cI, .int)]) rfl
  have hl := lv_entry ([.ref h, .int xn, .int xk, .int u]) (n := 4) (Nat.le_of_ble_eq_true rfl)
  rw [lg_entry_eq]
  generalize (lg_sl ([.ref h, .int xn, .int xk, .int u]) ++ List.replicate (4 - (lg_sl ([.ref h, .int xn, .int xk, .int u])).length) Slot.unset).toArray = ls at hl ⊢
  refine w_Q (fun Q hQ => ?_)
  have hl : lv_has ls 4 [(0, .ref h), (1, .int xn), (2, .int xk), (3, .int u)] := hl
  rw [fX6_scale] at hF
  refine lv_iload_n hx hb dX6_scale_0 rfl (lv_at hl 1 rfl) ?_
  refine lv_iload_n hx hb dX6_scale_1 rfl (lv_at hl 2 rfl) ?_
  have hPc : va_P D vwCl [] s.heap := (pnil _ _ _)
  refine cs_i (va_runS (As := [.int xn, .int xk]) (rest := []) ⟨hx, hb, hml, hown, hts⟩ (c_X0_mayOrder l D cI xn xk ) (va_cwS 2 hts gX6_scale_X0_mayOrder rfl rfl rfl (by decide +kernel) ⟨(Nat.le_of_ble_eq_true rfl), (Nat.le_of_ble_eq_true rfl)⟩) (ro_pre hPc hKi) rfl rfl hl.1 rfl (lv_room (Nat.le_of_ble_eq_true rfl)) dX6_scale_2 ⟨Nat.zero_le _, Nat.zero_le _⟩) ?_
  refine lv_if_eq (tgt := 18) hx hb dX6_scale_5 (by decide) (fun c5 => ?_) (fun c5 => ?_)
  · rw [if_pos c5] at hF
    refine lv_bipush (v := (-102)) hx hb dX6_scale_18 (by decide) ?_
    subst hQ
    exact W.iret (v := (-102)) hx hb hr (fun u9 ht hW => ⟨_, rfl, hF, ht⟩) (fun q hq => by cases hq) dX6_scale_20
  · rw [if_neg c5] at hF
    refine lv_iload_n hx hb dX6_scale_8 rfl (lv_at hl 3 rfl) ?_
    refine lv_iconst (v := 1) hx hb dX6_scale_9 (by decide) ?_
    refine lv_ldc (v := 1000000000) hx hb hown hcst189 dX6_scale_10 ?_
    have hPc : va_P D vwCl [] s.heap := (pnil _ _ _)
    refine cs_i (va_runS (As := [.int u, .int 1, .int 1000000000]) (rest := []) ⟨hx, hb, hml, hown, hts⟩ (c_X6_within l D cI u 1 1000000000 ) (va_cwS 3 hts gX6_scale_X6_within rfl rfl rfl (by decide +kernel) ⟨(Nat.le_of_ble_eq_true rfl), (Nat.le_of_ble_eq_true rfl)⟩) (ro_pre hPc hKi) rfl rfl hl.1 rfl (lv_room (Nat.le_of_ble_eq_true rfl)) dX6_scale_12 ⟨Nat.zero_le _, Nat.zero_le _⟩) ?_
    refine lv_if_ne (tgt := 21) hx hb dX6_scale_15 (by decide) (fun c15 => ?_) (fun c15 => ?_)
    · rw [if_neg c15] at hF
      obtain ⟨kn, hkn1, hkn, rfl⟩ := ord_nat c5
      have e_kn : (nI kn).toNatClampNeg = kn := nI_clamp (by omega)
      try simp only [e_kn] at hF
      refine lv_iload_n hx hb dX6_scale_21 rfl (lv_at hl 1 rfl) ?_
      refine lv_iload_n hx hb dX6_scale_22 rfl (lv_at hl 2 rfl) ?_
      refine lv_iload_n hx hb dX6_scale_23 rfl (lv_at hl 3 rfl) ?_
      have hPc : va_P D vwCl [] s.heap := (pnil _ _ _)
      refine cs_i (va_runS (As := [.int xn, .int (nI kn), .int u]) (rest := []) ⟨hx, hb, hml, hown, hts⟩ (c_X0_leastScale l D cI xn kn u (by first | assumption | omega)) (va_cwS 3 hts gX6_scale_X0_leastScale rfl rfl rfl (by decide +kernel) ⟨(Nat.le_of_ble_eq_true rfl), (Nat.le_of_ble_eq_true rfl)⟩) (ro_pre hPc hKi) rfl rfl hl.1 rfl (lv_room (Nat.le_of_ble_eq_true rfl)) dX6_scale_24 ⟨Nat.zero_le _, Nat.zero_le _⟩) ?_
      subst hQ
      exact W.iret (v := fX0_leastScale xn kn u) hx hb hr (fun u9 ht hW => ⟨_, rfl, hF, ht⟩) (fun q hq => by cases hq) dX6_scale_27
    · rw [if_pos c15] at hF
      refine lv_bipush (v := (-102)) hx hb dX6_scale_18 (by decide) ?_
      subst hQ
      exact W.iret (v := (-102)) hx hb hr (fun u9 ht hW => ⟨_, rfl, hF, ht⟩) (fun q hq => by cases hq) dX6_scale_20
def fX6_told (fn : Nat) (rn : Nat) (wn : Nat) (sr : Nat) (xw : Int32) : Int32 := (if xw = 0 then nI fn else (if xw = 1 then nI rn else (if xw = 2 then nI wn else (if xw = 3 then nI sr else (-102)))))
abbrev rmX6_told : Room := { frames := 0, cells := 0, slots := 0, locals := 0 }
set_option maxHeartbeats 4000000 in
set_option maxRecDepth 100000 in
theorem c_X6_told (l : Launch) (D : va_G) (cI : ClassId) (cS : ClassId) (h : Nat) (sa : Nat) (sg : Nat → Nat) (tg : Nat → Nat) (tr : Nat → Nat → Int32) (ln : Nat → Nat) (fo : Nat) (ft : Nat) (fl : Nat → Int32) (fn : Nat) (ro : Nat) (tp : Nat) (tq : Nat) (per : Nat → Int32) (rea : Nat → Int32) (rn : Nat) (wo : Nat) (tn : Nat) (td : Nat) (rw : Nat → Int32) (wn : Nat) (od : Nat → Int32) (sr : Nat) (xw : Int32)  : Met l yX6_told wsX6_told rmX6_told (va_Pc [.ref h, .int xw] (roP D [(cI, .int), (cS, .object RX5)] (PSW cI cS h sa sg tg tr ln fo ft fl fn ro tp tq per rea rn wo tn td rw wn od sr))) (vp_Si (fun r9 => r9 = fX6_told fn rn wn sr xw)) 0 0 (fun _ => False) := by
  generalize hF : fX6_told fn rn wn sr xw = T
  refine Met.ofW (cc := cX6_told) (maxL := 2) (ret := (some .int)) (by decide) rfl ?_
  intro p e s m args below meth c s₁ B hml hv
  obtain ⟨rfl, hP, hK⟩ := hv
  have hx := B.exec
  have hb := B.bytes
  have hr := B.returns
  have hts := atoms_spec (ws := wsX6_told) B.pre
  have hown : s.vm.findClass RX6 = some m.cls := findClass_of_methodNamed B.named
  have hlocks := B.notSynchronized
  have hinX1 : ∀ w ∈ u_ws RX1 TX1 2, w ∈ wsX6_told := by decide +kernel
  have hinX2 : ∀ w ∈ u_ws RX2 TX2 3, w ∈ wsX6_told := by decide +kernel
  have hinX3 : ∀ w ∈ u_ws RX3 TX3 3, w ∈ wsX6_told := by decide +kernel
  have hinX6 : ∀ w ∈ u_ws RX6 TX6 5, w ∈ wsX6_told := by decide +kernel
  have hf18 := hts (.fieldLink RX6 18 "PulseSigns" "sieve" "LPulseSigns$Filter;") (by decide +kernel)
  have hf108 := hts (.fieldLink RX6 108 "PulseSigns$Filter" "length" "I") (by decide +kernel)
  have hf25 := hts (.fieldLink RX6 25 "PulseSigns" "ways" "LPulseSigns$Rests;") (by decide +kernel)
  have hf140 := hts (.fieldLink RX6 140 "PulseSigns$Rests" "length" "I") (by decide +kernel)
  have hf32 := hts (.fieldLink RX6 32 "PulseSigns" "line" "LPulseSigns$Row;") (by decide +kernel)
  have hf161 := hts (.fieldLink RX6 161 "PulseSigns$Row" "length" "I") (by decide +kernel)
  have hf36 := hts (.fieldLink RX6 36 "PulseSigns" "searches" "I") (by decide +kernel)
  have hKi := hK.sub [0] (tys' := [(cI, .int)]) rfl
  have hl := lv_entry ([.ref h, .int xw]) (n := 2) (Nat.le_of_ble_eq_true rfl)
  rw [lg_entry_eq]
  generalize (lg_sl ([.ref h, .int xw]) ++ List.replicate (2 - (lg_sl ([.ref h, .int xw])).length) Slot.unset).toArray = ls at hl ⊢
  refine w_Q (fun Q hQ => ?_)
  have hl : lv_has ls 2 [(0, .ref h), (1, .int xw)] := hl
  rw [fX6_told] at hF
  refine lv_iload_n hx hb dX6_told_0 rfl (lv_at hl 1 rfl) ?_
  by_cases c1_0 : xw = 0
  · rw [if_pos c1_0] at hF
    subst c1_0
    refine lv_tableIn (off := 31) (tgt := 32) hx hb dX6_told_1 (by decide) (by decide) rfl (by decide) ?_
    refine lv_aload_n hx hb dX6_told_32 rfl (lv_at hl 0 rfl) ?_
    refine va_get (D := D) (ci := 4) (v := .ref fo) (C := RX6) (T := TX6) (N := 5) hx hb hts hinX6 hown hK.1 hP 0 rfl rfl 1 (by decide) hf18 (fun _ h9 => h9) rfl dX6_told_33 ?_
    refine va_get (D := D) (ci := 0) (v := .int (nI fn)) (C := RX1) (T := TX1) (N := 2) hx hb hts hinX1 hown hK.1 hP 14 rfl rfl 1 (by decide) hf108 (fun _ h9 => h9) rfl dX6_told_36 ?_
    subst hQ
    exact W.iret (v := nI fn) hx hb hr (fun u9 ht hW => ⟨_, rfl, hF, ht⟩) (fun q hq => by cases hq) dX6_told_39
  rw [if_neg c1_0] at hF
  by_cases c1_1 : xw = 1
  · rw [if_pos c1_1] at hF
    subst c1_1
    refine lv_tableIn (off := 39) (tgt := 40) hx hb dX6_told_1 (by decide) (by decide) rfl (by decide) ?_
    refine lv_aload_n hx hb dX6_told_40 rfl (lv_at hl 0 rfl) ?_
    refine va_get (D := D) (ci := 4) (v := .ref ro) (C := RX6) (T := TX6) (N := 5) hx hb hts hinX6 hown hK.1 hP 0 rfl rfl 2 (by decide) hf25 (fun _ h9 => h9) rfl dX6_told_41 ?_
    refine va_get (D := D) (ci := 1) (v := .int (nI rn)) (C := RX2) (T := TX2) (N := 3) hx hb hts hinX2 hown hK.1 hP 16 rfl rfl 2 (by decide) hf140 (fun _ h9 => h9) rfl dX6_told_44 ?_
    subst hQ
    exact W.iret (v := nI rn) hx hb hr (fun u9 ht hW => ⟨_, rfl, hF, ht⟩) (fun q hq => by cases hq) dX6_told_47
  rw [if_neg c1_1] at hF
  by_cases c1_2 : xw = 2
  · rw [if_pos c1_2] at hF
    subst c1_2
    refine lv_tableIn (off := 47) (tgt := 48) hx hb dX6_told_1 (by decide) (by decide) rfl (by decide) ?_
    refine lv_aload_n hx hb dX6_told_48 rfl (lv_at hl 0 rfl) ?_
    refine va_get (D := D) (ci := 4) (v := .ref wo) (C := RX6) (T := TX6) (N := 5) hx hb hts hinX6 hown hK.1 hP 0 rfl rfl 3 (by decide) hf32 (fun _ h9 => h9) rfl dX6_told_49 ?_
    refine va_get (D := D) (ci := 2) (v := .int (nI wn)) (C := RX3) (T := TX3) (N := 3) hx hb hts hinX3 hown hK.1 hP 19 rfl rfl 1 (by decide) hf161 (fun _ h9 => h9) rfl dX6_told_52 ?_
    subst hQ
    exact W.iret (v := nI wn) hx hb hr (fun u9 ht hW => ⟨_, rfl, hF, ht⟩) (fun q hq => by cases hq) dX6_told_55
  rw [if_neg c1_2] at hF
  by_cases c1_3 : xw = 3
  · rw [if_pos c1_3] at hF
    subst c1_3
    refine lv_tableIn (off := 55) (tgt := 56) hx hb dX6_told_1 (by decide) (by decide) rfl (by decide) ?_
    refine lv_aload_n hx hb dX6_told_56 rfl (lv_at hl 0 rfl) ?_
    refine va_get (D := D) (ci := 4) (v := .int (nI sr)) (C := RX6) (T := TX6) (N := 5) hx hb hts hinX6 hown hK.1 hP 0 rfl rfl 4 (by decide) hf36 (fun _ h9 => h9) rfl dX6_told_57 ?_
    subst hQ
    exact W.iret (v := nI sr) hx hb hr (fun u9 ht hW => ⟨_, rfl, hF, ht⟩) (fun q hq => by cases hq) dX6_told_60
  rw [if_neg c1_3] at hF
  refine lv_tableOut (tgt := 61) hx hb dX6_told_1 (tab_out c1_0 c1_1 c1_2 c1_3) (by decide) ?_
  refine lv_bipush (v := (-102)) hx hb dX6_told_61 (by decide) ?_
  subst hQ
  exact W.iret (v := (-102)) hx hb hr (fun u9 ht hW => ⟨_, rfl, hF, ht⟩) (fun q hq => by cases hq) dX6_told_63
def F_X6_digest_99 (per : Nat → Int32) (rea : Nat → Int32) (rw : Nat → Int32) (wn : Nat) (sr : Nat) : Nat → Nat → Int64 → Int64
  | 0, k99, x1 => fX6_mix (fX6_mixAll x1 rw wn) ((nI sr).toInt64)
  | r99 + 1, k99, x1 => F_X6_digest_99 per rea rw wn sr r99 (k99 + 1) (fX6_mix (fX6_mix x1 ((per k99).toInt64)) ((rea k99).toInt64))
def F_X6_digest_6 (tr : Nat → Nat → Int32) (ln : Nat → Nat) (fl : Nat → Int32) (fn : Nat) (per : Nat → Int32) (rea : Nat → Int32) (rn : Nat) (rw : Nat → Int32) (wn : Nat) (sr : Nat) : Nat → Nat → Int64 → Int64
  | 0, k6, x1 => F_X6_digest_99 per rea rw wn sr  (rn - 0) 0 (fX6_mix (fX6_mixAll (fX6_mix x1 ((nI fn).toInt64)) fl fn) ((nI rn).toInt64))
  | r6 + 1, k6, x1 => F_X6_digest_6 tr ln fl fn per rea rn rw wn sr r6 (k6 + 1) (fX6_mixAll (fX6_mix x1 ((nI (ln k6)).toInt64)) (tr k6) (ln k6))
def fX6_digest (tr : Nat → Nat → Int32) (ln : Nat → Nat) (fl : Nat → Int32) (fn : Nat) (per : Nat → Int32) (rea : Nat → Int32) (rn : Nat) (rw : Nat → Int32) (wn : Nat) (sr : Nat) : Int64 := F_X6_digest_6 tr ln fl fn per rea rn rw wn sr (6 - 0) 0 181
abbrev rmX6_digest : Room := { frames := 2, cells := 0, slots := 0, locals := 49 }
set_option maxHeartbeats 4000000 in
set_option maxRecDepth 100000 in
theorem c_X6_digest (l : Launch) (D : va_G) (cI : ClassId) (cS : ClassId) (h : Nat) (sa : Nat) (sg : Nat → Nat) (tg : Nat → Nat) (tr : Nat → Nat → Int32) (ln : Nat → Nat) (fo : Nat) (ft : Nat) (fl : Nat → Int32) (fn : Nat) (ro : Nat) (tp : Nat) (tq : Nat) (per : Nat → Int32) (rea : Nat → Int32) (rn : Nat) (wo : Nat) (tn : Nat) (td : Nat) (rw : Nat → Int32) (wn : Nat) (od : Nat → Int32) (sr : Nat) (hln : ∀ c, c < 6 → 1 ≤ ln c ∧ ln c ≤ 16) (hfn : 1 ≤ fn ∧ fn ≤ 24) (hrn : 1 ≤ rn ∧ rn ≤ 4) (hwn : wn ≤ 64) : Met l yX6_digest wsX6_digest rmX6_digest (va_Pc [.ref h] (roP D [(cI, .int), (cS, .object RX5)] (PSW cI cS h sa sg tg tr ln fo ft fl fn ro tp tq per rea rn wo tn td rw wn od sr))) (vp_Sl (fun r9 => r9 = fX6_digest tr ln fl fn per rea rn rw wn sr)) 0 0 (fun _ => False) := by
  generalize hF : fX6_digest tr ln fl fn per rea rn rw wn sr = T
  refine Met.ofW (cc := cX6_digest) (maxL := 4) (ret := (some .long)) (by decide) rfl ?_
  intro p e s m args below meth c s₁ B hml hv
  obtain ⟨rfl, hP, hK⟩ := hv
  have hx := B.exec
  have hb := B.bytes
  have hr := B.returns
  have hts := atoms_spec (ws := wsX6_digest) B.pre
  have hown : s.vm.findClass RX6 = some m.cls := findClass_of_methodNamed B.named
  have hlocks := B.notSynchronized
  have hinX1 : ∀ w ∈ u_ws RX1 TX1 2, w ∈ wsX6_digest := by decide +kernel
  have hinX2 : ∀ w ∈ u_ws RX2 TX2 3, w ∈ wsX6_digest := by decide +kernel
  have hinX3 : ∀ w ∈ u_ws RX3 TX3 3, w ∈ wsX6_digest := by decide +kernel
  have hinX5 : ∀ w ∈ u_ws RX5 TX5 2, w ∈ wsX6_digest := by decide +kernel
  have hinX6 : ∀ w ∈ u_ws RX6 TX6 5, w ∈ wsX6_digest := by decide +kernel
  have hcst193 := hts (.constantLong RX6 193 181) (by decide +kernel)
  have hf18 := hts (.fieldLink RX6 18 "PulseSigns" "sieve" "LPulseSigns$Filter;") (by decide +kernel)
  have hf108 := hts (.fieldLink RX6 108 "PulseSigns$Filter" "length" "I") (by decide +kernel)
  have hf109 := hts (.fieldLink RX6 109 "PulseSigns$Filter" "numbers" "[I") (by decide +kernel)
  have hf25 := hts (.fieldLink RX6 25 "PulseSigns" "ways" "LPulseSigns$Rests;") (by decide +kernel)
  have hf140 := hts (.fieldLink RX6 140 "PulseSigns$Rests" "length" "I") (by decide +kernel)
  have hf32 := hts (.fieldLink RX6 32 "PulseSigns" "line" "LPulseSigns$Row;") (by decide +kernel)
  have hf202 := hts (.fieldLink RX6 202 "PulseSigns$Row" "numbers" "[I") (by decide +kernel)
  have hf161 := hts (.fieldLink RX6 161 "PulseSigns$Row" "length" "I") (by decide +kernel)
  have hf36 := hts (.fieldLink RX6 36 "PulseSigns" "searches" "I") (by decide +kernel)
  have hf130 := hts (.fieldLink RX6 130 "PulseSigns$Rests" "periods" "[I") (by decide +kernel)
  have hf133 := hts (.fieldLink RX6 133 "PulseSigns$Rests" "readings" "[I") (by decide +kernel)
  have hf11 := hts (.fieldLink RX6 11 "PulseSigns" "signs" "[LPulseSigns$Sign;") (by decide +kernel)
  have hf73 := hts (.fieldLink RX6 73 "PulseSigns$Sign" "length" "I") (by decide +kernel)
  have hf56 := hts (.fieldLink RX6 56 "PulseSigns$Sign" "turns" "[I") (by decide +kernel)
  have hKi := hK.sub [0] (tys' := [(cI, .int)]) rfl
  have hl := lv_entry ([.ref h]) (n := 4) (Nat.le_of_ble_eq_true rfl)
  rw [lg_entry_eq]
  generalize (lg_sl ([.ref h]) ++ List.replicate (4 - (lg_sl ([.ref h])).length) Slot.unset).toArray = ls at hl ⊢
  refine w_Q (fun Q hQ => ?_)
  have hl : lv_has ls 4 [(0, .ref h)] := hl
  rw [fX6_digest] at hF
  refine lv_ldc2 (v := 181) hx hb hown hcst193 dX6_digest_0 ?_
  refine lv_lstore_n (lv' := [(1, .long 181), (0, .ref h)]) hx hb dX6_digest_3 rfl hl (by decide) rfl (fun ls hl => ?_)
  refine lv_iconst (v := 0) hx hb dX6_digest_4 (by decide) ?_
  refine lv_istore_n (lv' := [(3, .int 0), (1, .long 181), (0, .ref h)]) hx hb dX6_digest_5 rfl hl (by decide) rfl (fun ls hl => ?_)
  have lp6 : ∀ (r6 k6 : Nat) (x1 : Int64) (ls : Array Slot), r6 = 6 - k6 → k6 ≤ 6 + 1 → lv_has ls 4 [(0, .ref h), (1, .long x1), (3, .int (nI k6))] → F_X6_digest_6 tr ln fl fn per rea rn rw wn sr r6 k6 x1 = T → W p l e (headSpec wsX6_digest rmX6_digest).room s m ([.ref h] : List Value).toArray below meth c s.heap [] 0 0 Q (F0 m 6 ls []) := by
    intro r6
    induction r6 with
    | zero =>
      intro k6 x1 ls hi6_0 hi6_1 hl hF
      rw [F_X6_digest_6] at hF
      refine lv_iload_n hx hb dX6_digest_6 rfl (lv_at hl 2 rfl) ?_
      refine lv_bipush (v := 6) hx hb dX6_digest_7 (by decide) ?_
      refine lv_icmp_ge (tgt := 54) hx hb dX6_digest_9 (by decide) (fun c9 => ?_) (fun c9 => ?_)
      · skip
        refine lv_lload_n hx hb dX6_digest_54 rfl (lv_at hl 1 rfl) ?_
        refine lv_aload_n hx hb dX6_digest_55 rfl (lv_at hl 0 rfl) ?_
        refine va_get (D := D) (ci := 4) (v := .ref fo) (C := RX6) (T := TX6) (N := 5) hx hb hts hinX6 hown hK.1 hP 0 rfl rfl 1 (by decide) hf18 (fun _ h9 => h9) rfl dX6_digest_56 ?_
        refine va_get (D := D) (ci := 0) (v := .int (nI fn)) (C := RX1) (T := TX1) (N := 2) hx hb hts hinX1 hown hK.1 hP 14 rfl rfl 1 (by decide) hf108 (fun _ h9 => h9) rfl dX6_digest_59 ?_
        refine lv_i2l hx hb dX6_digest_62 rfl ?_
        have hPc : va_P D vwCl [] s.heap := (pnil _ _ _)
        refine cs_l (va_runS (As := [.long x1, .long ((nI fn).toInt64)]) (rest := []) ⟨hx, hb, hml, hown, hts⟩ (c_X6_mix l D cI x1 ((nI fn).toInt64) ) (va_cwS 2 hts gX6_digest_X6_mix rfl rfl rfl (by decide +kernel) ⟨(Nat.le_of_ble_eq_true rfl), (Nat.le_of_ble_eq_true rfl)⟩) (ro_pre hPc hKi) rfl rfl hl.1 rfl (lv_room (Nat.le_of_ble_eq_true rfl)) dX6_digest_63 ⟨Nat.zero_le _, Nat.zero_le _⟩) ?_
        refine lv_aload_n hx hb dX6_digest_66 rfl (lv_at hl 0 rfl) ?_
        refine va_get (D := D) (ci := 4) (v := .ref fo) (C := RX6) (T := TX6) (N := 5) hx hb hts hinX6 hown hK.1 hP 0 rfl rfl 1 (by decide) hf18 (fun _ h9 => h9) rfl dX6_digest_67 ?_
        refine va_get (D := D) (ci := 0) (v := .ref ft) (C := RX1) (T := TX1) (N := 2) hx hb hts hinX1 hown hK.1 hP 14 rfl rfl 0 (by decide) hf109 (fun _ h9 => h9) rfl dX6_digest_70 ?_
        refine lv_aload_n hx hb dX6_digest_73 rfl (lv_at hl 0 rfl) ?_
        refine va_get (D := D) (ci := 4) (v := .ref fo) (C := RX6) (T := TX6) (N := 5) hx hb hts hinX6 hown hK.1 hP 0 rfl rfl 1 (by decide) hf18 (fun _ h9 => h9) rfl dX6_digest_74 ?_
        refine va_get (D := D) (ci := 0) (v := .int (nI fn)) (C := RX1) (T := TX1) (N := 2) hx hb hts hinX1 hown hK.1 hP 14 rfl rfl 1 (by decide) hf108 (fun _ h9 => h9) rfl dX6_digest_77 ?_
        have hPc : va_P D vwCl [(ft, .inl (cI, 24, .inl fl))] s.heap := (pcons (i := 15) hP rfl (pnil _ _ _))
        refine cs_l (va_runS (As := [.long (fX6_mix x1 ((nI fn).toInt64)), .ref ft, .int (nI fn)]) (rest := []) ⟨hx, hb, hml, hown, hts⟩ (c_X6_mixAll l D cI (fX6_mix x1 ((nI fn).toInt64)) ft 24 fl fn (by first | assumption | omega) (by first | assumption | omega)) (va_cwS 3 hts gX6_digest_X6_mixAll rfl rfl rfl (by decide +kernel) ⟨(Nat.le_of_ble_eq_true rfl), (Nat.le_of_ble_eq_true rfl)⟩) (ro_pre hPc hKi) rfl rfl hl.1 rfl (lv_room (Nat.le_of_ble_eq_true rfl)) dX6_digest_80 ⟨Nat.zero_le _, Nat.zero_le _⟩) ?_
        refine lv_lstore_n (lv' := [(1, .long (fX6_mixAll (fX6_mix x1 ((nI fn).toInt64)) fl fn)), (0, .ref h), (3, .int (nI k6))]) hx hb dX6_digest_83 rfl hl (by decide) rfl (fun ls hl => ?_)
        refine lv_lload_n hx hb dX6_digest_84 rfl (lv_at hl 0 rfl) ?_
        refine lv_aload_n hx hb dX6_digest_85 rfl (lv_at hl 1 rfl) ?_
        refine va_get (D := D) (ci := 4) (v := .ref ro) (C := RX6) (T := TX6) (N := 5) hx hb hts hinX6 hown hK.1 hP 0 rfl rfl 2 (by decide) hf25 (fun _ h9 => h9) rfl dX6_digest_86 ?_
        refine va_get (D := D) (ci := 1) (v := .int (nI rn)) (C := RX2) (T := TX2) (N := 3) hx hb hts hinX2 hown hK.1 hP 16 rfl rfl 2 (by decide) hf140 (fun _ h9 => h9) rfl dX6_digest_89 ?_
        refine lv_i2l hx hb dX6_digest_92 rfl ?_
        have hPc : va_P D vwCl [] s.heap := (pnil _ _ _)
        refine cs_l (va_runS (As := [.long (fX6_mixAll (fX6_mix x1 ((nI fn).toInt64)) fl fn), .long ((nI rn).toInt64)]) (rest := []) ⟨hx, hb, hml, hown, hts⟩ (c_X6_mix l D cI (fX6_mixAll (fX6_mix x1 ((nI fn).toInt64)) fl fn) ((nI rn).toInt64) ) (va_cwS 2 hts gX6_digest_X6_mix rfl rfl rfl (by decide +kernel) ⟨(Nat.le_of_ble_eq_true rfl), (Nat.le_of_ble_eq_true rfl)⟩) (ro_pre hPc hKi) rfl rfl hl.1 rfl (lv_room (Nat.le_of_ble_eq_true rfl)) dX6_digest_93 ⟨Nat.zero_le _, Nat.zero_le _⟩) ?_
        refine lv_lstore_n (lv' := [(1, .long (fX6_mix (fX6_mixAll (fX6_mix x1 ((nI fn).toInt64)) fl fn) ((nI rn).toInt64))), (0, .ref h), (3, .int (nI k6))]) hx hb dX6_digest_96 rfl hl (by decide) rfl (fun ls hl => ?_)
        refine lv_iconst (v := 0) hx hb dX6_digest_97 (by decide) ?_
        refine lv_istore_n (lv' := [(3, .int 0), (1, .long (fX6_mix (fX6_mixAll (fX6_mix x1 ((nI fn).toInt64)) fl fn) ((nI rn).toInt64))), (0, .ref h)]) hx hb dX6_digest_98 rfl hl (by decide) rfl (fun ls hl => ?_)
        have lp99 : ∀ (r99 k99 : Nat) (x1 : Int64) (ls : Array Slot), r99 = rn - k99 → k99 ≤ rn + 1 → lv_has ls 4 [(0, .ref h), (1, .long x1), (3, .int (nI k99))] → F_X6_digest_99 per rea rw wn sr  r99 k99 x1 = T → W p l e (headSpec wsX6_digest rmX6_digest).room s m ([.ref h] : List Value).toArray below meth c s.heap [] 0 0 Q (F0 m 99 ls []) := by
          intro r99
          induction r99 with
          | zero =>
            intro k99 x1 ls hi99_0 hi99_1 hl hF
            rw [F_X6_digest_99] at hF
            refine lv_iload_n hx hb dX6_digest_99 rfl (lv_at hl 2 rfl) ?_
            refine lv_aload_n hx hb dX6_digest_100 rfl (lv_at hl 0 rfl) ?_
            refine va_get (D := D) (ci := 4) (v := .ref ro) (C := RX6) (T := TX6) (N := 5) hx hb hts hinX6 hown hK.1 hP 0 rfl rfl 2 (by decide) hf25 (fun _ h9 => h9) rfl dX6_digest_101 ?_
            refine va_get (D := D) (ci := 1) (v := .int (nI rn)) (C := RX2) (T := TX2) (N := 3) hx hb hts hinX2 hown hK.1 hP 16 rfl rfl 2 (by decide) hf140 (fun _ h9 => h9) rfl dX6_digest_104 ?_
            refine lv_icmp_ge (tgt := 144) hx hb dX6_digest_107 (by decide) (fun c107 => ?_) (fun c107 => ?_)
            · skip
              refine lv_lload_n hx hb dX6_digest_144 rfl (lv_at hl 1 rfl) ?_
              refine lv_aload_n hx hb dX6_digest_145 rfl (lv_at hl 0 rfl) ?_
              refine va_get (D := D) (ci := 4) (v := .ref wo) (C := RX6) (T := TX6) (N := 5) hx hb hts hinX6 hown hK.1 hP 0 rfl rfl 3 (by decide) hf32 (fun _ h9 => h9) rfl dX6_digest_146 ?_
              refine va_get (D := D) (ci := 2) (v := .ref tn) (C := RX3) (T := TX3) (N := 3) hx hb hts hinX3 hown hK.1 hP 19 rfl rfl 0 (by decide) hf202 (fun _ h9 => h9) rfl dX6_digest_149 ?_
              refine lv_aload_n hx hb dX6_digest_152 rfl (lv_at hl 0 rfl) ?_
              refine va_get (D := D) (ci := 4) (v := .ref wo) (C := RX6) (T := TX6) (N := 5) hx hb hts hinX6 hown hK.1 hP 0 rfl rfl 3 (by decide) hf32 (fun _ h9 => h9) rfl dX6_digest_153 ?_
              refine va_get (D := D) (ci := 2) (v := .int (nI wn)) (C := RX3) (T := TX3) (N := 3) hx hb hts hinX3 hown hK.1 hP 19 rfl rfl 1 (by decide) hf161 (fun _ h9 => h9) rfl dX6_digest_156 ?_
              have hPc : va_P D vwCl [(tn, .inl (cI, 64, .inl rw))] s.heap := (pcons (i := 20) hP rfl (pnil _ _ _))
              refine cs_l (va_runS (As := [.long x1, .ref tn, .int (nI wn)]) (rest := []) ⟨hx, hb, hml, hown, hts⟩ (c_X6_mixAll l D cI x1 tn 64 rw wn (by first | assumption | omega) (by first | assumption | omega)) (va_cwS 3 hts gX6_digest_X6_mixAll rfl rfl rfl (by decide +kernel) ⟨(Nat.le_of_ble_eq_true rfl), (Nat.le_of_ble_eq_true rfl)⟩) (ro_pre hPc hKi) rfl rfl hl.1 rfl (lv_room (Nat.le_of_ble_eq_true rfl)) dX6_digest_159 ⟨Nat.zero_le _, Nat.zero_le _⟩) ?_
              refine lv_lstore_n (lv' := [(1, .long (fX6_mixAll x1 rw wn)), (0, .ref h), (3, .int (nI k99))]) hx hb dX6_digest_162 rfl hl (by decide) rfl (fun ls hl => ?_)
              refine lv_lload_n hx hb dX6_digest_163 rfl (lv_at hl 0 rfl) ?_
              refine lv_aload_n hx hb dX6_digest_164 rfl (lv_at hl 1 rfl) ?_
              refine va_get (D := D) (ci := 4) (v := .int (nI sr)) (C := RX6) (T := TX6) (N := 5) hx hb hts hinX6 hown hK.1 hP 0 rfl rfl 4 (by decide) hf36 (fun _ h9 => h9) rfl dX6_digest_165 ?_
              refine lv_i2l hx hb dX6_digest_168 rfl ?_
              have hPc : va_P D vwCl [] s.heap := (pnil _ _ _)
              refine cs_l (va_runS (As := [.long (fX6_mixAll x1 rw wn), .long ((nI sr).toInt64)]) (rest := []) ⟨hx, hb, hml, hown, hts⟩ (c_X6_mix l D cI (fX6_mixAll x1 rw wn) ((nI sr).toInt64) ) (va_cwS 2 hts gX6_digest_X6_mix rfl rfl rfl (by decide +kernel) ⟨(Nat.le_of_ble_eq_true rfl), (Nat.le_of_ble_eq_true rfl)⟩) (ro_pre hPc hKi) rfl rfl hl.1 rfl (lv_room (Nat.le_of_ble_eq_true rfl)) dX6_digest_169 ⟨Nat.zero_le _, Nat.zero_le _⟩) ?_
              subst hQ
              exact W.lret (v := fX6_mix (fX6_mixAll x1 rw wn) ((nI sr).toInt64)) hx hb hr (fun u9 ht hW => ⟨_, rfl, hF, ht⟩) (fun q hq => by cases hq) dX6_digest_172
            · exact False.elim (c107 (nI_le (a := rn) (b := k99) (by omega) (by omega)))
          | succ r99 ih99 =>
            intro k99 x1 ls hi99_0 hi99_1 hl hF
            rw [F_X6_digest_99] at hF
            refine lv_iload_n hx hb dX6_digest_99 rfl (lv_at hl 2 rfl) ?_
            refine lv_aload_n hx hb dX6_digest_100 rfl (lv_at hl 0 rfl) ?_
            refine va_get (D := D) (ci := 4) (v := .ref ro) (C := RX6) (T := TX6) (N := 5) hx hb hts hinX6 hown hK.1 hP 0 rfl rfl 2 (by decide) hf25 (fun _ h9 => h9) rfl dX6_digest_101 ?_
            refine va_get (D := D) (ci := 1) (v := .int (nI rn)) (C := RX2) (T := TX2) (N := 3) hx hb hts hinX2 hown hK.1 hP 16 rfl rfl 2 (by decide) hf140 (fun _ h9 => h9) rfl dX6_digest_104 ?_
            refine lv_icmp_ge (tgt := 144) hx hb dX6_digest_107 (by decide) (fun c107 => ?_) (fun c107 => ?_)
            · exact False.elim (nI_ge (a := k99) (b := rn) (by omega) (by omega) c107)
            · skip
              refine lv_lload_n hx hb dX6_digest_110 rfl (lv_at hl 1 rfl) ?_
              refine lv_aload_n hx hb dX6_digest_111 rfl (lv_at hl 0 rfl) ?_
              refine va_get (D := D) (ci := 4) (v := .ref ro) (C := RX6) (T := TX6) (N := 5) hx hb hts hinX6 hown hK.1 hP 0 rfl rfl 2 (by decide) hf25 (fun _ h9 => h9) rfl dX6_digest_112 ?_
              refine va_get (D := D) (ci := 1) (v := .ref tp) (C := RX2) (T := TX2) (N := 3) hx hb hts hinX2 hown hK.1 hP 16 rfl rfl 0 (by decide) hf130 (fun _ h9 => h9) rfl dX6_digest_115 ?_
              refine lv_iload_n hx hb dX6_digest_118 rfl (lv_at hl 2 rfl) ?_
              refine w_ald hx hb hK hP 17 0 rfl rfl (k99) rfl (by omega) (by omega) dX6_digest_119 ?_
              refine lv_i2l hx hb dX6_digest_120 rfl ?_
              have hPc : va_P D vwCl [] s.heap := (pnil _ _ _)
              refine cs_l (va_runS (As := [.long x1, .long ((per k99).toInt64)]) (rest := []) ⟨hx, hb, hml, hown, hts⟩ (c_X6_mix l D cI x1 ((per k99).toInt64) ) (va_cwS 2 hts gX6_digest_X6_mix rfl rfl rfl (by decide +kernel) ⟨(Nat.le_of_ble_eq_true rfl), (Nat.le_of_ble_eq_true rfl)⟩) (ro_pre hPc hKi) rfl rfl hl.1 rfl (lv_room (Nat.le_of_ble_eq_true rfl)) dX6_digest_121 ⟨Nat.zero_le _, Nat.zero_le _⟩) ?_
              refine lv_aload_n hx hb dX6_digest_124 rfl (lv_at hl 0 rfl) ?_
              refine va_get (D := D) (ci := 4) (v := .ref ro) (C := RX6) (T := TX6) (N := 5) hx hb hts hinX6 hown hK.1 hP 0 rfl rfl 2 (by decide) hf25 (fun _ h9 => h9) rfl dX6_digest_125 ?_
              refine va_get (D := D) (ci := 1) (v := .ref tq) (C := RX2) (T := TX2) (N := 3) hx hb hts hinX2 hown hK.1 hP 16 rfl rfl 1 (by decide) hf133 (fun _ h9 => h9) rfl dX6_digest_128 ?_
              refine lv_iload_n hx hb dX6_digest_131 rfl (lv_at hl 2 rfl) ?_
              refine w_ald hx hb hK hP 18 0 rfl rfl (k99) rfl (by omega) (by omega) dX6_digest_132 ?_
              refine lv_i2l hx hb dX6_digest_133 rfl ?_
              have hPc : va_P D vwCl [] s.heap := (pnil _ _ _)
              refine cs_l (va_runS (As := [.long (fX6_mix x1 ((per k99).toInt64)), .long ((rea k99).toInt64)]) (rest := []) ⟨hx, hb, hml, hown, hts⟩ (c_X6_mix l D cI (fX6_mix x1 ((per k99).toInt64)) ((rea k99).toInt64) ) (va_cwS 2 hts gX6_digest_X6_mix rfl rfl rfl (by decide +kernel) ⟨(Nat.le_of_ble_eq_true rfl), (Nat.le_of_ble_eq_true rfl)⟩) (ro_pre hPc hKi) rfl rfl hl.1 rfl (lv_room (Nat.le_of_ble_eq_true rfl)) dX6_digest_134 ⟨Nat.zero_le _, Nat.zero_le _⟩) ?_
              refine lv_lstore_n (lv' := [(1, .long (fX6_mix (fX6_mix x1 ((per k99).toInt64)) ((rea k99).toInt64))), (0, .ref h), (3, .int (nI k99))]) hx hb dX6_digest_137 rfl hl (by decide) rfl (fun ls hl => ?_)
              refine lv_iinc (v := nI (k99 + 1)) (lv' := [(3, .int (nI (k99 + 1))), (1, .long (fX6_mix (fX6_mix x1 ((per k99).toInt64)) ((rea k99).toInt64))), (0, .ref h)]) hx hb dX6_digest_138 hl (k := 2) rfl (nI_1 _) (by decide) rfl (fun ls hl => ?_)
              refine lv_goto (tgt := 99) hx hb dX6_digest_141 (by decide) ?_
              exact ih99 (k99 + 1) (fX6_mix (fX6_mix x1 ((per k99).toInt64)) ((rea k99).toInt64)) ls (by omega) (by omega)  (lv_sub hl [2, 1, 0] rfl) hF
        exact lp99 (rn - 0) 0 (fX6_mix (fX6_mixAll (fX6_mix x1 ((nI fn).toInt64)) fl fn) ((nI rn).toInt64)) ls rfl (by omega)  (lv_sub hl [2, 1, 0] rfl) hF
      · exact False.elim (c9 (nI_le (a := 6) (b := k6) (by omega) (by omega)))
    | succ r6 ih6 =>
      intro k6 x1 ls hi6_0 hi6_1 hl hF
      have h16 := hln k6 (by omega)
      rw [F_X6_digest_6] at hF
      refine lv_iload_n hx hb dX6_digest_6 rfl (lv_at hl 2 rfl) ?_
      refine lv_bipush (v := 6) hx hb dX6_digest_7 (by decide) ?_
      refine lv_icmp_ge (tgt := 54) hx hb dX6_digest_9 (by decide) (fun c9 => ?_) (fun c9 => ?_)
      · exact False.elim (nI_ge (a := k6) (b := 6) (by omega) (by omega) c9)
      · skip
        refine lv_lload_n hx hb dX6_digest_12 rfl (lv_at hl 1 rfl) ?_
        refine lv_aload_n hx hb dX6_digest_13 rfl (lv_at hl 0 rfl) ?_
        refine va_get (D := D) (ci := 4) (v := .ref sa) (C := RX6) (T := TX6) (N := 5) hx hb hts hinX6 hown hK.1 hP 0 rfl rfl 0 (by decide) hf11 (fun _ h9 => h9) rfl dX6_digest_14 ?_
        refine lv_iload_n hx hb dX6_digest_17 rfl (lv_at hl 2 rfl) ?_
        refine w_aref hx hb hK hP 1 1 rfl rfl k6 rfl (by omega) (by omega) rfl dX6_digest_18 ?_
        refine va_get (D := D) (ci := 3) (v := .int (nI (ln k6))) (C := RX5) (T := TX5) (N := 2) hx hb hts hinX5 hown hK.1 hP (2 + 2 * k6) (psw_s (by omega)) rfl 1 (by decide) hf73 (fun _ h9 => h9) rfl dX6_digest_19 ?_
        refine lv_i2l hx hb dX6_digest_22 rfl ?_
        have hPc : va_P D vwCl [] s.heap := (pnil _ _ _)
        refine cs_l (va_runS (As := [.long x1, .long ((nI (ln k6)).toInt64)]) (rest := []) ⟨hx, hb, hml, hown, hts⟩ (c_X6_mix l D cI x1 ((nI (ln k6)).toInt64) ) (va_cwS 2 hts gX6_digest_X6_mix rfl rfl rfl (by decide +kernel) ⟨(Nat.le_of_ble_eq_true rfl), (Nat.le_of_ble_eq_true rfl)⟩) (ro_pre hPc hKi) rfl rfl hl.1 rfl (lv_room (Nat.le_of_ble_eq_true rfl)) dX6_digest_23 ⟨Nat.zero_le _, Nat.zero_le _⟩) ?_
        refine lv_aload_n hx hb dX6_digest_26 rfl (lv_at hl 0 rfl) ?_
        refine va_get (D := D) (ci := 4) (v := .ref sa) (C := RX6) (T := TX6) (N := 5) hx hb hts hinX6 hown hK.1 hP 0 rfl rfl 0 (by decide) hf11 (fun _ h9 => h9) rfl dX6_digest_27 ?_
        refine lv_iload_n hx hb dX6_digest_30 rfl (lv_at hl 2 rfl) ?_
        refine w_aref hx hb hK hP 1 1 rfl rfl k6 rfl (by omega) (by omega) rfl dX6_digest_31 ?_
        refine va_get (D := D) (ci := 3) (v := .ref (tg k6)) (C := RX5) (T := TX5) (N := 2) hx hb hts hinX5 hown hK.1 hP (2 + 2 * k6) (psw_s (by omega)) rfl 0 (by decide) hf56 (fun _ h9 => h9) rfl dX6_digest_32 ?_
        refine lv_aload_n hx hb dX6_digest_35 rfl (lv_at hl 0 rfl) ?_
        refine va_get (D := D) (ci := 4) (v := .ref sa) (C := RX6) (T := TX6) (N := 5) hx hb hts hinX6 hown hK.1 hP 0 rfl rfl 0 (by decide) hf11 (fun _ h9 => h9) rfl dX6_digest_36 ?_
        refine lv_iload_n hx hb dX6_digest_39 rfl (lv_at hl 2 rfl) ?_
        refine w_aref hx hb hK hP 1 1 rfl rfl k6 rfl (by omega) (by omega) rfl dX6_digest_40 ?_
        refine va_get (D := D) (ci := 3) (v := .int (nI (ln k6))) (C := RX5) (T := TX5) (N := 2) hx hb hts hinX5 hown hK.1 hP (2 + 2 * k6) (psw_s (by omega)) rfl 1 (by decide) hf73 (fun _ h9 => h9) rfl dX6_digest_41 ?_
        have hPc : va_P D vwCl [(tg k6, .inl (cI, 16, .inl (tr k6)))] s.heap := (pcons (i := (3 + 2 * k6)) hP (psw_t (by omega)) (pnil _ _ _))
        refine cs_l (va_runS (As := [.long (fX6_mix x1 ((nI (ln k6)).toInt64)), .ref (tg k6), .int (nI (ln k6))]) (rest := []) ⟨hx, hb, hml, hown, hts⟩ (c_X6_mixAll l D cI (fX6_mix x1 ((nI (ln k6)).toInt64)) (tg k6) 16 (tr k6) (ln k6) (by first | assumption | omega) (by first | assumption | omega)) (va_cwS 3 hts gX6_digest_X6_mixAll rfl rfl rfl (by decide +kernel) ⟨(Nat.le_of_ble_eq_true rfl), (Nat.le_of_ble_eq_true rfl)⟩) (ro_pre hPc hKi) rfl rfl hl.1 rfl (lv_room (Nat.le_of_ble_eq_true rfl)) dX6_digest_44 ⟨Nat.zero_le _, Nat.zero_le _⟩) ?_
        refine lv_lstore_n (lv' := [(1, .long (fX6_mixAll (fX6_mix x1 ((nI (ln k6)).toInt64)) (tr k6) (ln k6))), (0, .ref h), (3, .int (nI k6))]) hx hb dX6_digest_47 rfl hl (by decide) rfl (fun ls hl => ?_)
        refine lv_iinc (v := nI (k6 + 1)) (lv' := [(3, .int (nI (k6 + 1))), (1, .long (fX6_mixAll (fX6_mix x1 ((nI (ln k6)).toInt64)) (tr k6) (ln k6))), (0, .ref h)]) hx hb dX6_digest_48 hl (k := 2) rfl (nI_1 _) (by decide) rfl (fun ls hl => ?_)
        refine lv_goto (tgt := 6) hx hb dX6_digest_51 (by decide) ?_
        exact ih6 (k6 + 1) (fX6_mixAll (fX6_mix x1 ((nI (ln k6)).toInt64)) (tr k6) (ln k6)) ls (by omega) (by omega)  (lv_sub hl [2, 1, 0] rfl) hF
  exact lp6 (6 - 0) 0 181 ls rfl (by omega)  (lv_sub hl [2, 1, 0] rfl) hF
