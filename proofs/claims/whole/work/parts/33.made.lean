theorem updN_at (f : Nat → Nat) (a b : Nat) : updN f a b a = b := if_pos rfl
theorem F_cp1 (tr2 : Nat → Int32) (n2 : Nat) : ∀ (r k : Nat) (tr : Nat → Int32), (F_X5_copy_10 tr2 n2 r k tr).1 = n2 := by
  intro r
  induction r with
  | zero => intro k tr; rw [F_X5_copy_10]
  | succ r ih => intro k tr; rw [F_X5_copy_10]; exact ih _ _
theorem cp1 (tr tr2 : Nat → Int32) (n2 : Nat) : (fX5_copy tr tr2 n2).1 = n2 := F_cp1 ..
theorem F_cps1 (n : Nat) : ∀ (r k : Nat) (tr : Nat → Int32), (F_X5_copy_same_10 n r k tr).1 = n := by
  intro r
  induction r with
  | zero => intro k tr; rw [F_X5_copy_same_10]
  | succ r ih => intro k tr; rw [F_X5_copy_same_10]; exact ih _ _
theorem cps1 (tr : Nat → Int32) (n : Nat) : (fX5_copy_same tr n).1 = n := F_cps1 ..
def fX6_made (tr : Nat → Nat → Int32) (ln : Nat → Nat) (xc : Int32) (xa : Int32) (xs : Int32) : Int32 × (Nat → Nat → Int32) × (Nat → Nat) := (if (fX6_isSign xa) = 0 then ((-101), tr, ln) else (if (fX6_isSign xc) = 0 then ((-101), tr, ln) else (if (fX6_within xs 0 2) = 0 then ((-102), tr, ln) else (if (xc.toNatClampNeg) = (xa.toNatClampNeg) then (if xs = 0 then (nI ((updN (updN ln (xc.toNatClampNeg) ((fX5_copy_same (tr (xc.toNatClampNeg)) (ln (xc.toNatClampNeg))).1)) (xc.toNatClampNeg) ((updN ln (xc.toNatClampNeg) ((fX5_copy_same (tr (xc.toNatClampNeg)) (ln (xc.toNatClampNeg))).1)) (xc.toNatClampNeg))) (xc.toNatClampNeg)), upR (upR tr (xc.toNatClampNeg) ((fX5_copy_same (tr (xc.toNatClampNeg)) (ln (xc.toNatClampNeg))).2)) (xc.toNatClampNeg) (fX5_reverse ((upR tr (xc.toNatClampNeg) ((fX5_copy_same (tr (xc.toNatClampNeg)) (ln (xc.toNatClampNeg))).2)) (xc.toNatClampNeg)) ((updN ln (xc.toNatClampNeg) ((fX5_copy_same (tr (xc.toNatClampNeg)) (ln (xc.toNatClampNeg))).1)) (xc.toNatClampNeg))), updN (updN ln (xc.toNatClampNeg) ((fX5_copy_same (tr (xc.toNatClampNeg)) (ln (xc.toNatClampNeg))).1)) (xc.toNatClampNeg) ((updN ln (xc.toNatClampNeg) ((fX5_copy_same (tr (xc.toNatClampNeg)) (ln (xc.toNatClampNeg))).1)) (xc.toNatClampNeg))) else (if xs = 1 then (nI ((updN (updN ln (xc.toNatClampNeg) ((fX5_copy_same (tr (xc.toNatClampNeg)) (ln (xc.toNatClampNeg))).1)) (xc.toNatClampNeg) ((updN ln (xc.toNatClampNeg) ((fX5_copy_same (tr (xc.toNatClampNeg)) (ln (xc.toNatClampNeg))).1)) (xc.toNatClampNeg))) (xc.toNatClampNeg)), upR (upR tr (xc.toNatClampNeg) ((fX5_copy_same (tr (xc.toNatClampNeg)) (ln (xc.toNatClampNeg))).2)) (xc.toNatClampNeg) (fX5_mirror ((upR tr (xc.toNatClampNeg) ((fX5_copy_same (tr (xc.toNatClampNeg)) (ln (xc.toNatClampNeg))).2)) (xc.toNatClampNeg)) ((updN ln (xc.toNatClampNeg) ((fX5_copy_same (tr (xc.toNatClampNeg)) (ln (xc.toNatClampNeg))).1)) (xc.toNatClampNeg))), updN (updN ln (xc.toNatClampNeg) ((fX5_copy_same (tr (xc.toNatClampNeg)) (ln (xc.toNatClampNeg))).1)) (xc.toNatClampNeg) ((updN ln (xc.toNatClampNeg) ((fX5_copy_same (tr (xc.toNatClampNeg)) (ln (xc.toNatClampNeg))).1)) (xc.toNatClampNeg))) else (nI ((updN (updN ln (xc.toNatClampNeg) ((fX5_copy_same (tr (xc.toNatClampNeg)) (ln (xc.toNatClampNeg))).1)) (xc.toNatClampNeg) ((updN ln (xc.toNatClampNeg) ((fX5_copy_same (tr (xc.toNatClampNeg)) (ln (xc.toNatClampNeg))).1)) (xc.toNatClampNeg))) (xc.toNatClampNeg)), upR (upR tr (xc.toNatClampNeg) ((fX5_copy_same (tr (xc.toNatClampNeg)) (ln (xc.toNatClampNeg))).2)) (xc.toNatClampNeg) (fX5_advance ((upR tr (xc.toNatClampNeg) ((fX5_copy_same (tr (xc.toNatClampNeg)) (ln (xc.toNatClampNeg))).2)) (xc.toNatClampNeg)) ((updN ln (xc.toNatClampNeg) ((fX5_copy_same (tr (xc.toNatClampNeg)) (ln (xc.toNatClampNeg))).1)) (xc.toNatClampNeg))), updN (updN ln (xc.toNatClampNeg) ((fX5_copy_same (tr (xc.toNatClampNeg)) (ln (xc.toNatClampNeg))).1)) (xc.toNatClampNeg) ((updN ln (xc.toNatClampNeg) ((fX5_copy_same (tr (xc.toNatClampNeg)) (ln (xc.toNatClampNeg))).1)) (xc.toNatClampNeg))))) else (if xs = 0 then (nI ((updN (updN ln (xc.toNatClampNeg) ((fX5_copy (tr (xc.toNatClampNeg)) (tr (xa.toNatClampNeg)) (ln (xa.toNatClampNeg))).1)) (xc.toNatClampNeg) ((updN ln (xc.toNatClampNeg) ((fX5_copy (tr (xc.toNatClampNeg)) (tr (xa.toNatClampNeg)) (ln (xa.toNatClampNeg))).1)) (xc.toNatClampNeg))) (xc.toNatClampNeg)), upR (upR tr (xc.toNatClampNeg) ((fX5_copy (tr (xc.toNatClampNeg)) (tr (xa.toNatClampNeg)) (ln (xa.toNatClampNeg))).2)) (xc.toNatClampNeg) (fX5_reverse ((upR tr (xc.toNatClampNeg) ((fX5_copy (tr (xc.toNatClampNeg)) (tr (xa.toNatClampNeg)) (ln (xa.toNatClampNeg))).2)) (xc.toNatClampNeg)) ((updN ln (xc.toNatClampNeg) ((fX5_copy (tr (xc.toNatClampNeg)) (tr (xa.toNatClampNeg)) (ln (xa.toNatClampNeg))).1)) (xc.toNatClampNeg))), updN (updN ln (xc.toNatClampNeg) ((fX5_copy (tr (xc.toNatClampNeg)) (tr (xa.toNatClampNeg)) (ln (xa.toNatClampNeg))).1)) (xc.toNatClampNeg) ((updN ln (xc.toNatClampNeg) ((fX5_copy (tr (xc.toNatClampNeg)) (tr (xa.toNatClampNeg)) (ln (xa.toNatClampNeg))).1)) (xc.toNatClampNeg))) else (if xs = 1 then (nI ((updN (updN ln (xc.toNatClampNeg) ((fX5_copy (tr (xc.toNatClampNeg)) (tr (xa.toNatClampNeg)) (ln (xa.toNatClampNeg))).1)) (xc.toNatClampNeg) ((updN ln (xc.toNatClampNeg) ((fX5_copy (tr (xc.toNatClampNeg)) (tr (xa.toNatClampNeg)) (ln (xa.toNatClampNeg))).1)) (xc.toNatClampNeg))) (xc.toNatClampNeg)), upR (upR tr (xc.toNatClampNeg) ((fX5_copy (tr (xc.toNatClampNeg)) (tr (xa.toNatClampNeg)) (ln (xa.toNatClampNeg))).2)) (xc.toNatClampNeg) (fX5_mirror ((upR tr (xc.toNatClampNeg) ((fX5_copy (tr (xc.toNatClampNeg)) (tr (xa.toNatClampNeg)) (ln (xa.toNatClampNeg))).2)) (xc.toNatClampNeg)) ((updN ln (xc.toNatClampNeg) ((fX5_copy (tr (xc.toNatClampNeg)) (tr (xa.toNatClampNeg)) (ln (xa.toNatClampNeg))).1)) (xc.toNatClampNeg))), updN (updN ln (xc.toNatClampNeg) ((fX5_copy (tr (xc.toNatClampNeg)) (tr (xa.toNatClampNeg)) (ln (xa.toNatClampNeg))).1)) (xc.toNatClampNeg) ((updN ln (xc.toNatClampNeg) ((fX5_copy (tr (xc.toNatClampNeg)) (tr (xa.toNatClampNeg)) (ln (xa.toNatClampNeg))).1)) (xc.toNatClampNeg))) else (nI ((updN (updN ln (xc.toNatClampNeg) ((fX5_copy (tr (xc.toNatClampNeg)) (tr (xa.toNatClampNeg)) (ln (xa.toNatClampNeg))).1)) (xc.toNatClampNeg) ((updN ln (xc.toNatClampNeg) ((fX5_copy (tr (xc.toNatClampNeg)) (tr (xa.toNatClampNeg)) (ln (xa.toNatClampNeg))).1)) (xc.toNatClampNeg))) (xc.toNatClampNeg)), upR (upR tr (xc.toNatClampNeg) ((fX5_copy (tr (xc.toNatClampNeg)) (tr (xa.toNatClampNeg)) (ln (xa.toNatClampNeg))).2)) (xc.toNatClampNeg) (fX5_advance ((upR tr (xc.toNatClampNeg) ((fX5_copy (tr (xc.toNatClampNeg)) (tr (xa.toNatClampNeg)) (ln (xa.toNatClampNeg))).2)) (xc.toNatClampNeg)) ((updN ln (xc.toNatClampNeg) ((fX5_copy (tr (xc.toNatClampNeg)) (tr (xa.toNatClampNeg)) (ln (xa.toNatClampNeg))).1)) (xc.toNatClampNeg))), updN (updN ln (xc.toNatClampNeg) ((fX5_copy (tr (xc.toNatClampNeg)) (tr (xa.toNatClampNeg)) (ln (xa.toNatClampNeg))).1)) (xc.toNatClampNeg) ((updN ln (xc.toNatClampNeg) ((fX5_copy (tr (xc.toNatClampNeg)) (tr (xa.toNatClampNeg)) (ln (xa.toNatClampNeg))).1)) (xc.toNatClampNeg)))))))))
abbrev rmX6_made : Room := { frames := 2, cells := 0, slots := 0, locals := 42 }
set_option maxHeartbeats 4000000 in
set_option maxRecDepth 100000 in
theorem c_X6_made (l : Launch) (D : va_G) (cI : ClassId) (cS : ClassId) (sz : Nat) (h : Nat) (sa : Nat) (sg : Nat → Nat) (tg : Nat → Nat) (tr : Nat → Nat → Int32) (ln : Nat → Nat) (fo : Nat) (ft : Nat) (fl : Nat → Int32) (fn : Nat) (ro : Nat) (tp : Nat) (tq : Nat) (per : Nat → Int32) (rea : Nat → Int32) (rn : Nat) (wo : Nat) (tn : Nat) (td : Nat) (rw : Nat → Int32) (wn : Nat) (od : Nat → Int32) (sr : Nat) (xc : Int32) (xa : Int32) (xs : Int32) (hln : ∀ c, c < 6 → 1 ≤ ln c ∧ ln c ≤ 16) : Met l yX6_made wsX6_made rmX6_made (va_Pc [.ref h, .int xc, .int xa, .int xs] (wrP D [(cI, .int), (cS, .object RX5)] (PSW cI cS h sa sg tg tr ln fo ft fl fn ro tp tq per rea rn wo tn td rw wn od sr) sz)) (va_Qi (fun r9 (_ : Unit) => r9 = (fX6_made tr ln xc xa xs).1) (fun _ u9 => va_P D vwCl (PSW cI cS h sa sg tg ((fX6_made tr ln xc xa xs).2.1) ((fX6_made tr ln xc xa xs).2.2) fo ft fl fn ro tp tq per rea rn wo tn td rw wn od sr) u9.heap) (va_A (PSW cI cS h sa sg tg tr ln fo ft fl fn ro tp tq per rea rn wo tn td rw wn od sr) sz)) 0 0 (va_A (PSW cI cS h sa sg tg tr ln fo ft fl fn ro tp tq per rea rn wo tn td rw wn od sr) sz) := by
  generalize hF : fX6_made tr ln xc xa xs = T
  refine Met.ofW (cc := cX6_made) (maxL := 5) (ret := (some .int)) (by decide) rfl ?_
  intro p e s m args below meth c s₁ B hml hv
  obtain ⟨rfl, hsz, hP, hK, hD0⟩ := hv
  have hx := B.exec
  have hb := B.bytes
  have hr := B.returns
  have hts := atoms_spec (ws := wsX6_made) B.pre
  have hown : s.vm.findClass RX6 = some m.cls := findClass_of_methodNamed B.named
  have hlocks := B.notSynchronized
  have hinX5 : ∀ w ∈ u_ws RX5 TX5 2, w ∈ wsX6_made := by decide +kernel
  have hinX6 : ∀ w ∈ u_ws RX6 TX6 5, w ∈ wsX6_made := by decide +kernel
  have hf11 := hts (.fieldLink RX6 11 "PulseSigns" "signs" "[LPulseSigns$Sign;") (by decide +kernel)
  have hf73 := hts (.fieldLink RX6 73 "PulseSigns$Sign" "length" "I") (by decide +kernel)
  subst hsz
  have hD := hD0.self (sz := s.heap.size)
  generalize hAe : va_A (PSW cI cS h sa sg tg tr ln fo ft fl fn ro tp tq per rea rn wo tn td rw wn od sr) s.heap.size = A at hD ⊢
  have hA : ∀ q : Nat, s.heap.size ≤ q → A q := fun q h => by rw [← hAe]; exact Or.inr h
  have hS : va_S A s.heap s.heap [] := va_S.rf
  have hP : va_P D vwCl (PSW cI cS h sa sg tg tr ln fo ft fl fn ro tp tq per rea rn wo tn td rw wn od sr) s.heap := hP
  have hKi := hK.sub [0] (tys' := [(cI, .int)]) rfl
  have hl := lv_entry ([.ref h, .int xc, .int xa, .int xs]) (n := 5) (Nat.le_of_ble_eq_true rfl)
  rw [lg_entry_eq]
  generalize (lg_sl ([.ref h, .int xc, .int xa, .int xs]) ++ List.replicate (5 - (lg_sl ([.ref h, .int xc, .int xa, .int xs])).length) Slot.unset).toArray = ls at hl ⊢
  refine w_Q (fun Q hQ => ?_)
  have hl : lv_has ls 5 [(0, .ref h), (1, .int xc), (2, .int xa), (3, .int xs)] := hl
  rw [fX6_made] at hF
  refine lv_iload_n hx hb dX6_made_0 rfl (lv_at hl 2 rfl) ?_
  have hPc : va_P D vwCl [] s.heap := (pnil _ _ _)
  refine cs_i (va_runS (As := [.int xa]) (rest := []) ⟨hx, hb, hml, hown, hts⟩ (c_X6_isSign l D cI xa ) (va_cwS 1 hts gX6_made_X6_isSign rfl rfl rfl (by decide +kernel) ⟨(Nat.le_of_ble_eq_true rfl), (Nat.le_of_ble_eq_true rfl)⟩) (ro_pre hPc hKi) rfl rfl hl.1 rfl (lv_room (Nat.le_of_ble_eq_true rfl)) dX6_made_1 ⟨Nat.zero_le _, Nat.zero_le _⟩) ?_
  refine lv_if_eq (tgt := 14) hx hb dX6_made_4 (by decide) (fun c4 => ?_) (fun c4 => ?_)
  · rw [if_pos c4] at hF
    refine lv_bipush (v := (-101)) hx hb dX6_made_14 (by decide) ?_
    subst hF
    subst hQ
    exact W.iret (v := (-101)) hx hb hr (fun u9 ht hW => ⟨⟨_, (), rfl, rfl, by rw [← ht] at hP; exact hP⟩, hS.F ht⟩) hS.2.2 dX6_made_16
  · rw [if_neg c4] at hF
    obtain ⟨an, han, rfl⟩ := sg_nat c4
    have h16an := hln an (by omega)
    have e_an : (nI an).toNatClampNeg = an := nI_clamp (by omega)
    try simp only [e_an] at hF
    refine lv_iload_n hx hb dX6_made_7 rfl (lv_at hl 1 rfl) ?_
    have hPc : va_P D vwCl [] s.heap := (pnil _ _ _)
    refine cs_i (va_runS (As := [.int xc]) (rest := []) ⟨hx, hb, hml, hown, hts⟩ (c_X6_isSign l D cI xc ) (va_cwS 1 hts gX6_made_X6_isSign rfl rfl rfl (by decide +kernel) ⟨(Nat.le_of_ble_eq_true rfl), (Nat.le_of_ble_eq_true rfl)⟩) (ro_pre hPc hKi) rfl rfl hl.1 rfl (lv_room (Nat.le_of_ble_eq_true rfl)) dX6_made_8 ⟨Nat.zero_le _, Nat.zero_le _⟩) ?_
    refine lv_if_ne (tgt := 17) hx hb dX6_made_11 (by decide) (fun c11 => ?_) (fun c11 => ?_)
    · rw [if_neg c11] at hF
      obtain ⟨cn, hcn, rfl⟩ := sg_nat c11
      have h16cn := hln cn (by omega)
      have e_cn : (nI cn).toNatClampNeg = cn := nI_clamp (by omega)
      try simp only [e_cn] at hF
      refine lv_iload_n hx hb dX6_made_17 rfl (lv_at hl 3 rfl) ?_
      refine lv_iconst (v := 0) hx hb dX6_made_18 (by decide) ?_
      refine lv_iconst (v := 2) hx hb dX6_made_19 (by decide) ?_
      have hPc : va_P D vwCl [] s.heap := (pnil _ _ _)
      refine cs_i (va_runS (As := [.int xs, .int 0, .int 2]) (rest := []) ⟨hx, hb, hml, hown, hts⟩ (c_X6_within l D cI xs 0 2 ) (va_cwS 3 hts gX6_made_X6_within rfl rfl rfl (by decide +kernel) ⟨(Nat.le_of_ble_eq_true rfl), (Nat.le_of_ble_eq_true rfl)⟩) (ro_pre hPc hKi) rfl rfl hl.1 rfl (lv_room (Nat.le_of_ble_eq_true rfl)) dX6_made_20 ⟨Nat.zero_le _, Nat.zero_le _⟩) ?_
      refine lv_if_ne (tgt := 29) hx hb dX6_made_23 (by decide) (fun c23 => ?_) (fun c23 => ?_)
      · rw [if_neg c23] at hF
        refine lv_aload_n hx hb dX6_made_29 rfl (lv_at hl 0 rfl) ?_
        refine va_get (D := D) (ci := 4) (v := .ref sa) (C := RX6) (T := TX6) (N := 5) hx hb hts hinX6 hown hK.1 hP 0 rfl rfl 0 (by decide) hf11 (fun _ h9 => h9) rfl dX6_made_30 ?_
        refine lv_iload_n hx hb dX6_made_33 rfl (lv_at hl 1 rfl) ?_
        refine w_aref hx hb hK hP 1 1 rfl rfl cn rfl (by omega) (by omega) rfl dX6_made_34 ?_
        refine lv_astore (lv' := [(4, .ref (sg cn)), (0, .ref h), (1, .int (nI cn)), (2, .int (nI an)), (3, .int xs)]) hx hb dX6_made_35 hl (by decide) rfl (fun ls hl => ?_)
        refine lv_aload hx hb dX6_made_37 (lv_at hl 0 rfl) ?_
        refine lv_aload_n hx hb dX6_made_39 rfl (lv_at hl 1 rfl) ?_
        refine va_get (D := D) (ci := 4) (v := .ref sa) (C := RX6) (T := TX6) (N := 5) hx hb hts hinX6 hown hK.1 hP 0 rfl rfl 0 (by decide) hf11 (fun _ h9 => h9) rfl dX6_made_40 ?_
        refine lv_iload_n hx hb dX6_made_43 rfl (lv_at hl 3 rfl) ?_
        refine w_aref hx hb hK hP 1 1 rfl rfl an rfl (by omega) (by omega) rfl dX6_made_44 ?_
        by_cases heq : cn = an
        · rw [if_pos heq] at hF
          subst heq
          have hPc : va_P D vwCl [(sg cn, .inr (3, [.ref (tg cn), .int (nI (ln cn))])), (tg cn, .inl (cI, 16, .inl (tr cn)))] s.heap := (pcons (i := (2 + 2 * cn)) hP (psw_s (by omega)) (pcons (i := (3 + 2 * cn)) hP (psw_t (by omega)) (pnil _ _ _)))
          have hDc : va_D A [(sg cn, .inr (3, [.ref (tg cn), .int (nI (ln cn))])), (tg cn, .inl (cI, 16, .inl (tr cn)))] := hD.sub [(2 + 2 * cn), (3 + 2 * cn)] (by simp [va_nd] <;> omega) (pmapc (psw_s (by omega)) (pmapc (psw_t (by omega)) pmapn))
          refine cx_v (va_runV (As := [.ref (sg cn)]) (rest := []) ⟨hx, hb, hml, hown, hts⟩ (c_X5_copy_same l D cI s.heap.size (sg cn) (tg cn) (tr cn) (ln cn) (by first | assumption | omega)) (cwV 1 hts gX6_made_X5_copy rfl rfl rfl (by decide +kernel) ⟨(Nat.le_of_ble_eq_true rfl), (Nat.le_of_ble_eq_true rfl)⟩) (wr_preV hPc hDc hKi rfl (q0 := 0) rfl) rfl rfl hl.1 rfl (lv_room (Nat.le_of_ble_eq_true rfl)) dX6_made_45 ⟨Nat.zero_le _, Nat.zero_le _⟩) hP hD hS hA [(2 + 2 * cn), (3 + 2 * cn)] (pmapc (psw_s (by omega)) (pmapc (psw_t (by omega)) pmapn)) [sg cn, tg cn] rfl rfl (fun H locs hP hD hS => ?_)
          rw [psw_sign (by omega)] at hP hD
          have hP : va_P D vwCl (PSW cI cS h sa sg tg (upR tr cn ((fX5_copy_same (tr cn) (ln cn)).2)) (updN ln cn ((fX5_copy_same (tr cn) (ln cn)).1)) fo ft fl fn ro tp tq per rea rn wo tn td rw wn od sr) H := hP
          have hD : va_D A (PSW cI cS h sa sg tg (upR tr cn ((fX5_copy_same (tr cn) (ln cn)).2)) (updN ln cn ((fX5_copy_same (tr cn) (ln cn)).1)) fo ft fl fn ro tp tq per rea rn wo tn td rw wn od sr) := hD
          refine lv_iload_n hx hb dX6_made_48 rfl (lv_at hl 4 rfl) ?_
          refine lv_if_ne (tgt := 60) hx hb dX6_made_49 (by decide) (fun c49 => ?_) (fun c49 => ?_)
          · rw [if_neg c49] at hF
            refine lv_iload_n hx hb dX6_made_60 rfl (lv_at hl 4 rfl) ?_
            refine lv_iconst (v := 1) hx hb dX6_made_61 (by decide) ?_
            refine lv_icmp_ne (tgt := 73) hx hb dX6_made_62 (by decide) (fun c62 => ?_) (fun c62 => ?_)
            · rw [if_neg c62] at hF
              refine lv_aload hx hb dX6_made_73 (lv_at hl 0 rfl) ?_
              have hPc : va_P D vwCl [(sg cn, .inr (3, [.ref (tg cn), .int (nI ((updN ln cn ((fX5_copy_same (tr cn) (ln cn)).1)) cn))])), (tg cn, .inl (cI, 16, .inl ((upR tr cn ((fX5_copy_same (tr cn) (ln cn)).2)) cn)))] H := (pcons (i := (2 + 2 * cn)) hP (psw_s (by omega)) (pcons (i := (3 + 2 * cn)) hP (psw_t (by omega)) (pnil _ _ _)))
              have hDc : va_D A [(sg cn, .inr (3, [.ref (tg cn), .int (nI ((updN ln cn ((fX5_copy_same (tr cn) (ln cn)).1)) cn))])), (tg cn, .inl (cI, 16, .inl ((upR tr cn ((fX5_copy_same (tr cn) (ln cn)).2)) cn)))] := hD.sub [(2 + 2 * cn), (3 + 2 * cn)] (by simp [va_nd] <;> omega) (pmapc (psw_s (by omega)) (pmapc (psw_t (by omega)) pmapn))
              refine cx_v (va_runV (As := []) (rest := []) ⟨hx, hb, hml, hown, hts⟩ (c_X5_advance l D cI H.size (sg cn) (tg cn) ((upR tr cn ((fX5_copy_same (tr cn) (ln cn)).2)) cn) ((updN ln cn ((fX5_copy_same (tr cn) (ln cn)).1)) cn) (by first | (rw [updN_at, cp1]; omega) | (rw [updN_at, cps1]; omega))) (cwV 0 hts gX6_made_X5_advance rfl rfl rfl (by decide +kernel) ⟨(Nat.le_of_ble_eq_true rfl), (Nat.le_of_ble_eq_true rfl)⟩) (wr_preV hPc hDc hKi rfl (q0 := 0) rfl) rfl rfl hl.1 rfl (lv_room (Nat.le_of_ble_eq_true rfl)) dX6_made_75 ⟨Nat.zero_le _, Nat.zero_le _⟩) hP hD hS hA [(2 + 2 * cn), (3 + 2 * cn)] (pmapc (psw_s (by omega)) (pmapc (psw_t (by omega)) pmapn)) [sg cn, tg cn] rfl rfl (fun H locs hP hD hS => ?_)
              rw [psw_sign (by omega)] at hP hD
              have hP : va_P D vwCl (PSW cI cS h sa sg tg (upR (upR tr cn ((fX5_copy_same (tr cn) (ln cn)).2)) cn (fX5_advance ((upR tr cn ((fX5_copy_same (tr cn) (ln cn)).2)) cn) ((updN ln cn ((fX5_copy_same (tr cn) (ln cn)).1)) cn))) (updN (updN ln cn ((fX5_copy_same (tr cn) (ln cn)).1)) cn ((updN ln cn ((fX5_copy_same (tr cn) (ln cn)).1)) cn)) fo ft fl fn ro tp tq per rea rn wo tn td rw wn od sr) H := hP
              have hD : va_D A (PSW cI cS h sa sg tg (upR (upR tr cn ((fX5_copy_same (tr cn) (ln cn)).2)) cn (fX5_advance ((upR tr cn ((fX5_copy_same (tr cn) (ln cn)).2)) cn) ((updN ln cn ((fX5_copy_same (tr cn) (ln cn)).1)) cn))) (updN (updN ln cn ((fX5_copy_same (tr cn) (ln cn)).1)) cn ((updN ln cn ((fX5_copy_same (tr cn) (ln cn)).1)) cn)) fo ft fl fn ro tp tq per rea rn wo tn td rw wn od sr) := hD
              refine lv_aload hx hb dX6_made_78 (lv_at hl 0 rfl) ?_
              refine va_get (D := D) (ci := 3) (v := .int (nI ((updN (updN ln cn ((fX5_copy_same (tr cn) (ln cn)).1)) cn ((updN ln cn ((fX5_copy_same (tr cn) (ln cn)).1)) cn)) cn))) (C := RX5) (T := TX5) (N := 2) hx hb hts hinX5 hown hK.1 hP (2 + 2 * cn) (psw_s (by omega)) rfl 1 (by decide) hf73 (fun _ h9 => h9) rfl dX6_made_80 ?_
              subst hF
              subst hQ
              exact W.iret (v := nI ((updN (updN ln cn ((fX5_copy_same (tr cn) (ln cn)).1)) cn ((updN ln cn ((fX5_copy_same (tr cn) (ln cn)).1)) cn)) cn)) hx hb hr (fun u9 ht hW => ⟨⟨_, (), rfl, rfl, by rw [← ht] at hP; exact hP⟩, hS.F ht⟩) hS.2.2 dX6_made_83
            · rw [if_pos c62] at hF
              refine lv_aload hx hb dX6_made_65 (lv_at hl 0 rfl) ?_
              have hPc : va_P D vwCl [(sg cn, .inr (3, [.ref (tg cn), .int (nI ((updN ln cn ((fX5_copy_same (tr cn) (ln cn)).1)) cn))])), (tg cn, .inl (cI, 16, .inl ((upR tr cn ((fX5_copy_same (tr cn) (ln cn)).2)) cn)))] H := (pcons (i := (2 + 2 * cn)) hP (psw_s (by omega)) (pcons (i := (3 + 2 * cn)) hP (psw_t (by omega)) (pnil _ _ _)))
              have hDc : va_D A [(sg cn, .inr (3, [.ref (tg cn), .int (nI ((updN ln cn ((fX5_copy_same (tr cn) (ln cn)).1)) cn))])), (tg cn, .inl (cI, 16, .inl ((upR tr cn ((fX5_copy_same (tr cn) (ln cn)).2)) cn)))] := hD.sub [(2 + 2 * cn), (3 + 2 * cn)] (by simp [va_nd] <;> omega) (pmapc (psw_s (by omega)) (pmapc (psw_t (by omega)) pmapn))
              refine cx_v (va_runV (As := []) (rest := []) ⟨hx, hb, hml, hown, hts⟩ (c_X5_mirror l D cI H.size (sg cn) (tg cn) ((upR tr cn ((fX5_copy_same (tr cn) (ln cn)).2)) cn) ((updN ln cn ((fX5_copy_same (tr cn) (ln cn)).1)) cn) (by first | (rw [updN_at, cp1]; omega) | (rw [updN_at, cps1]; omega))) (cwV 0 hts gX6_made_X5_mirror rfl rfl rfl (by decide +kernel) ⟨(Nat.le_of_ble_eq_true rfl), (Nat.le_of_ble_eq_true rfl)⟩) (wr_preV hPc hDc hKi rfl (q0 := 0) rfl) rfl rfl hl.1 rfl (lv_room (Nat.le_of_ble_eq_true rfl)) dX6_made_67 ⟨Nat.zero_le _, Nat.zero_le _⟩) hP hD hS hA [(2 + 2 * cn), (3 + 2 * cn)] (pmapc (psw_s (by omega)) (pmapc (psw_t (by omega)) pmapn)) [sg cn, tg cn] rfl rfl (fun H locs hP hD hS => ?_)
              rw [psw_sign (by omega)] at hP hD
              have hP : va_P D vwCl (PSW cI cS h sa sg tg (upR (upR tr cn ((fX5_copy_same (tr cn) (ln cn)).2)) cn (fX5_mirror ((upR tr cn ((fX5_copy_same (tr cn) (ln cn)).2)) cn) ((updN ln cn ((fX5_copy_same (tr cn) (ln cn)).1)) cn))) (updN (updN ln cn ((fX5_copy_same (tr cn) (ln cn)).1)) cn ((updN ln cn ((fX5_copy_same (tr cn) (ln cn)).1)) cn)) fo ft fl fn ro tp tq per rea rn wo tn td rw wn od sr) H := hP
              have hD : va_D A (PSW cI cS h sa sg tg (upR (upR tr cn ((fX5_copy_same (tr cn) (ln cn)).2)) cn (fX5_mirror ((upR tr cn ((fX5_copy_same (tr cn) (ln cn)).2)) cn) ((updN ln cn ((fX5_copy_same (tr cn) (ln cn)).1)) cn))) (updN (updN ln cn ((fX5_copy_same (tr cn) (ln cn)).1)) cn ((updN ln cn ((fX5_copy_same (tr cn) (ln cn)).1)) cn)) fo ft fl fn ro tp tq per rea rn wo tn td rw wn od sr) := hD
              refine lv_goto (tgt := 78) hx hb dX6_made_70 (by decide) ?_
              refine lv_aload hx hb dX6_made_78 (lv_at hl 0 rfl) ?_
              refine va_get (D := D) (ci := 3) (v := .int (nI ((updN (updN ln cn ((fX5_copy_same (tr cn) (ln cn)).1)) cn ((updN ln cn ((fX5_copy_same (tr cn) (ln cn)).1)) cn)) cn))) (C := RX5) (T := TX5) (N := 2) hx hb hts hinX5 hown hK.1 hP (2 + 2 * cn) (psw_s (by omega)) rfl 1 (by decide) hf73 (fun _ h9 => h9) rfl dX6_made_80 ?_
              subst hF
              subst hQ
              exact W.iret (v := nI ((updN (updN ln cn ((fX5_copy_same (tr cn) (ln cn)).1)) cn ((updN ln cn ((fX5_copy_same (tr cn) (ln cn)).1)) cn)) cn)) hx hb hr (fun u9 ht hW => ⟨⟨_, (), rfl, rfl, by rw [← ht] at hP; exact hP⟩, hS.F ht⟩) hS.2.2 dX6_made_83
          · rw [if_pos c49] at hF
            refine lv_aload hx hb dX6_made_52 (lv_at hl 0 rfl) ?_
            have hPc : va_P D vwCl [(sg cn, .inr (3, [.ref (tg cn), .int (nI ((updN ln cn ((fX5_copy_same (tr cn) (ln cn)).1)) cn))])), (tg cn, .inl (cI, 16, .inl ((upR tr cn ((fX5_copy_same (tr cn) (ln cn)).2)) cn)))] H := (pcons (i := (2 + 2 * cn)) hP (psw_s (by omega)) (pcons (i := (3 + 2 * cn)) hP (psw_t (by omega)) (pnil _ _ _)))
            have hDc : va_D A [(sg cn, .inr (3, [.ref (tg cn), .int (nI ((updN ln cn ((fX5_copy_same (tr cn) (ln cn)).1)) cn))])), (tg cn, .inl (cI, 16, .inl ((upR tr cn ((fX5_copy_same (tr cn) (ln cn)).2)) cn)))] := hD.sub [(2 + 2 * cn), (3 + 2 * cn)] (by simp [va_nd] <;> omega) (pmapc (psw_s (by omega)) (pmapc (psw_t (by omega)) pmapn))
            refine cx_v (va_runV (As := []) (rest := []) ⟨hx, hb, hml, hown, hts⟩ (c_X5_reverse l D cI H.size (sg cn) (tg cn) ((upR tr cn ((fX5_copy_same (tr cn) (ln cn)).2)) cn) ((updN ln cn ((fX5_copy_same (tr cn) (ln cn)).1)) cn) (by first | (rw [updN_at, cp1]; omega) | (rw [updN_at, cps1]; omega))) (cwV 0 hts gX6_made_X5_reverse rfl rfl rfl (by decide +kernel) ⟨(Nat.le_of_ble_eq_true rfl), (Nat.le_of_ble_eq_true rfl)⟩) (wr_preV hPc hDc hKi rfl (q0 := 0) rfl) rfl rfl hl.1 rfl (lv_room (Nat.le_of_ble_eq_true rfl)) dX6_made_54 ⟨Nat.zero_le _, Nat.zero_le _⟩) hP hD hS hA [(2 + 2 * cn), (3 + 2 * cn)] (pmapc (psw_s (by omega)) (pmapc (psw_t (by omega)) pmapn)) [sg cn, tg cn] rfl rfl (fun H locs hP hD hS => ?_)
            rw [psw_sign (by omega)] at hP hD
            have hP : va_P D vwCl (PSW cI cS h sa sg tg (upR (upR tr cn ((fX5_copy_same (tr cn) (ln cn)).2)) cn (fX5_reverse ((upR tr cn ((fX5_copy_same (tr cn) (ln cn)).2)) cn) ((updN ln cn ((fX5_copy_same (tr cn) (ln cn)).1)) cn))) (updN (updN ln cn ((fX5_copy_same (tr cn) (ln cn)).1)) cn ((updN ln cn ((fX5_copy_same (tr cn) (ln cn)).1)) cn)) fo ft fl fn ro tp tq per rea rn wo tn td rw wn od sr) H := hP
            have hD : va_D A (PSW cI cS h sa sg tg (upR (upR tr cn ((fX5_copy_same (tr cn) (ln cn)).2)) cn (fX5_reverse ((upR tr cn ((fX5_copy_same (tr cn) (ln cn)).2)) cn) ((updN ln cn ((fX5_copy_same (tr cn) (ln cn)).1)) cn))) (updN (updN ln cn ((fX5_copy_same (tr cn) (ln cn)).1)) cn ((updN ln cn ((fX5_copy_same (tr cn) (ln cn)).1)) cn)) fo ft fl fn ro tp tq per rea rn wo tn td rw wn od sr) := hD
            refine lv_goto (tgt := 78) hx hb dX6_made_57 (by decide) ?_
            refine lv_aload hx hb dX6_made_78 (lv_at hl 0 rfl) ?_
            refine va_get (D := D) (ci := 3) (v := .int (nI ((updN (updN ln cn ((fX5_copy_same (tr cn) (ln cn)).1)) cn ((updN ln cn ((fX5_copy_same (tr cn) (ln cn)).1)) cn)) cn))) (C := RX5) (T := TX5) (N := 2) hx hb hts hinX5 hown hK.1 hP (2 + 2 * cn) (psw_s (by omega)) rfl 1 (by decide) hf73 (fun _ h9 => h9) rfl dX6_made_80 ?_
            subst hF
            subst hQ
            exact W.iret (v := nI ((updN (updN ln cn ((fX5_copy_same (tr cn) (ln cn)).1)) cn ((updN ln cn ((fX5_copy_same (tr cn) (ln cn)).1)) cn)) cn)) hx hb hr (fun u9 ht hW => ⟨⟨_, (), rfl, rfl, by rw [← ht] at hP; exact hP⟩, hS.F ht⟩) hS.2.2 dX6_made_83
        · rw [if_neg heq] at hF
          have hPc : va_P D vwCl [(sg cn, .inr (3, [.ref (tg cn), .int (nI (ln cn))])), (tg cn, .inl (cI, 16, .inl (tr cn))), (sg an, .inr (3, [.ref (tg an), .int (nI (ln an))])), (tg an, .inl (cI, 16, .inl (tr an)))] s.heap := (pcons (i := (2 + 2 * cn)) hP (psw_s (by omega)) (pcons (i := (3 + 2 * cn)) hP (psw_t (by omega)) (pcons (i := (2 + 2 * an)) hP (psw_s (by omega)) (pcons (i := (3 + 2 * an)) hP (psw_t (by omega)) (pnil _ _ _)))))
          have hDc : va_D A [(sg cn, .inr (3, [.ref (tg cn), .int (nI (ln cn))])), (tg cn, .inl (cI, 16, .inl (tr cn))), (sg an, .inr (3, [.ref (tg an), .int (nI (ln an))])), (tg an, .inl (cI, 16, .inl (tr an)))] := hD.sub [(2 + 2 * cn), (3 + 2 * cn), (2 + 2 * an), (3 + 2 * an)] (by simp [va_nd] <;> omega) (pmapc (psw_s (by omega)) (pmapc (psw_t (by omega)) (pmapc (psw_s (by omega)) (pmapc (psw_t (by omega)) pmapn))))
          refine cx_v (va_runV (As := [.ref (sg an)]) (rest := []) ⟨hx, hb, hml, hown, hts⟩ (c_X5_copy l D cI s.heap.size (sg cn) (tg cn) (tr cn) (ln cn) (sg an) (tg an) (tr an) (ln an) (by first | assumption | omega)) (cwV 1 hts gX6_made_X5_copy rfl rfl rfl (by decide +kernel) ⟨(Nat.le_of_ble_eq_true rfl), (Nat.le_of_ble_eq_true rfl)⟩) (wr_preV hPc hDc hKi rfl (q0 := 0) rfl) rfl rfl hl.1 rfl (lv_room (Nat.le_of_ble_eq_true rfl)) dX6_made_45 ⟨Nat.zero_le _, Nat.zero_le _⟩) hP hD hS hA [(2 + 2 * cn), (3 + 2 * cn), (2 + 2 * an), (3 + 2 * an)] (pmapc (psw_s (by omega)) (pmapc (psw_t (by omega)) (pmapc (psw_s (by omega)) (pmapc (psw_t (by omega)) pmapn)))) [sg cn, tg cn, sg an, tg an] rfl rfl (fun H locs hP hD hS => ?_)
          rw [psw_copy (by omega) (by omega) (by omega)] at hP hD
          have hP : va_P D vwCl (PSW cI cS h sa sg tg (upR tr cn ((fX5_copy (tr cn) (tr an) (ln an)).2)) (updN ln cn ((fX5_copy (tr cn) (tr an) (ln an)).1)) fo ft fl fn ro tp tq per rea rn wo tn td rw wn od sr) H := hP
          have hD : va_D A (PSW cI cS h sa sg tg (upR tr cn ((fX5_copy (tr cn) (tr an) (ln an)).2)) (updN ln cn ((fX5_copy (tr cn) (tr an) (ln an)).1)) fo ft fl fn ro tp tq per rea rn wo tn td rw wn od sr) := hD
          refine lv_iload_n hx hb dX6_made_48 rfl (lv_at hl 4 rfl) ?_
          refine lv_if_ne (tgt := 60) hx hb dX6_made_49 (by decide) (fun c49 => ?_) (fun c49 => ?_)
          · rw [if_neg c49] at hF
            refine lv_iload_n hx hb dX6_made_60 rfl (lv_at hl 4 rfl) ?_
            refine lv_iconst (v := 1) hx hb dX6_made_61 (by decide) ?_
            refine lv_icmp_ne (tgt := 73) hx hb dX6_made_62 (by decide) (fun c62 => ?_) (fun c62 => ?_)
            · rw [if_neg c62] at hF
              refine lv_aload hx hb dX6_made_73 (lv_at hl 0 rfl) ?_
              have hPc : va_P D vwCl [(sg cn, .inr (3, [.ref (tg cn), .int (nI ((updN ln cn ((fX5_copy (tr cn) (tr an) (ln an)).1)) cn))])), (tg cn, .inl (cI, 16, .inl ((upR tr cn ((fX5_copy (tr cn) (tr an) (ln an)).2)) cn)))] H := (pcons (i := (2 + 2 * cn)) hP (psw_s (by omega)) (pcons (i := (3 + 2 * cn)) hP (psw_t (by omega)) (pnil _ _ _)))
              have hDc : va_D A [(sg cn, .inr (3, [.ref (tg cn), .int (nI ((updN ln cn ((fX5_copy (tr cn) (tr an) (ln an)).1)) cn))])), (tg cn, .inl (cI, 16, .inl ((upR tr cn ((fX5_copy (tr cn) (tr an) (ln an)).2)) cn)))] := hD.sub [(2 + 2 * cn), (3 + 2 * cn)] (by simp [va_nd] <;> omega) (pmapc (psw_s (by omega)) (pmapc (psw_t (by omega)) pmapn))
              refine cx_v (va_runV (As := []) (rest := []) ⟨hx, hb, hml, hown, hts⟩ (c_X5_advance l D cI H.size (sg cn) (tg cn) ((upR tr cn ((fX5_copy (tr cn) (tr an) (ln an)).2)) cn) ((updN ln cn ((fX5_copy (tr cn) (tr an) (ln an)).1)) cn) (by first | (rw [updN_at, cp1]; omega) | (rw [updN_at, cps1]; omega))) (cwV 0 hts gX6_made_X5_advance rfl rfl rfl (by decide +kernel) ⟨(Nat.le_of_ble_eq_true rfl), (Nat.le_of_ble_eq_true rfl)⟩) (wr_preV hPc hDc hKi rfl (q0 := 0) rfl) rfl rfl hl.1 rfl (lv_room (Nat.le_of_ble_eq_true rfl)) dX6_made_75 ⟨Nat.zero_le _, Nat.zero_le _⟩) hP hD hS hA [(2 + 2 * cn), (3 + 2 * cn)] (pmapc (psw_s (by omega)) (pmapc (psw_t (by omega)) pmapn)) [sg cn, tg cn] rfl rfl (fun H locs hP hD hS => ?_)
              rw [psw_sign (by omega)] at hP hD
              have hP : va_P D vwCl (PSW cI cS h sa sg tg (upR (upR tr cn ((fX5_copy (tr cn) (tr an) (ln an)).2)) cn (fX5_advance ((upR tr cn ((fX5_copy (tr cn) (tr an) (ln an)).2)) cn) ((updN ln cn ((fX5_copy (tr cn) (tr an) (ln an)).1)) cn))) (updN (updN ln cn ((fX5_copy (tr cn) (tr an) (ln an)).1)) cn ((updN ln cn ((fX5_copy (tr cn) (tr an) (ln an)).1)) cn)) fo ft fl fn ro tp tq per rea rn wo tn td rw wn od sr) H := hP
              have hD : va_D A (PSW cI cS h sa sg tg (upR (upR tr cn ((fX5_copy (tr cn) (tr an) (ln an)).2)) cn (fX5_advance ((upR tr cn ((fX5_copy (tr cn) (tr an) (ln an)).2)) cn) ((updN ln cn ((fX5_copy (tr cn) (tr an) (ln an)).1)) cn))) (updN (updN ln cn ((fX5_copy (tr cn) (tr an) (ln an)).1)) cn ((updN ln cn ((fX5_copy (tr cn) (tr an) (ln an)).1)) cn)) fo ft fl fn ro tp tq per rea rn wo tn td rw wn od sr) := hD
              refine lv_aload hx hb dX6_made_78 (lv_at hl 0 rfl) ?_
              refine va_get (D := D) (ci := 3) (v := .int (nI ((updN (updN ln cn ((fX5_copy (tr cn) (tr an) (ln an)).1)) cn ((updN ln cn ((fX5_copy (tr cn) (tr an) (ln an)).1)) cn)) cn))) (C := RX5) (T := TX5) (N := 2) hx hb hts hinX5 hown hK.1 hP (2 + 2 * cn) (psw_s (by omega)) rfl 1 (by decide) hf73 (fun _ h9 => h9) rfl dX6_made_80 ?_
              subst hF
              subst hQ
              exact W.iret (v := nI ((updN (updN ln cn ((fX5_copy (tr cn) (tr an) (ln an)).1)) cn ((updN ln cn ((fX5_copy (tr cn) (tr an) (ln an)).1)) cn)) cn)) hx hb hr (fun u9 ht hW => ⟨⟨_, (), rfl, rfl, by rw [← ht] at hP; exact hP⟩, hS.F ht⟩) hS.2.2 dX6_made_83
            · rw [if_pos c62] at hF
              refine lv_aload hx hb dX6_made_65 (lv_at hl 0 rfl) ?_
              have hPc : va_P D vwCl [(sg cn, .inr (3, [.ref (tg cn), .int (nI ((updN ln cn ((fX5_copy (tr cn) (tr an) (ln an)).1)) cn))])), (tg cn, .inl (cI, 16, .inl ((upR tr cn ((fX5_copy (tr cn) (tr an) (ln an)).2)) cn)))] H := (pcons (i := (2 + 2 * cn)) hP (psw_s (by omega)) (pcons (i := (3 + 2 * cn)) hP (psw_t (by omega)) (pnil _ _ _)))
              have hDc : va_D A [(sg cn, .inr (3, [.ref (tg cn), .int (nI ((updN ln cn ((fX5_copy (tr cn) (tr an) (ln an)).1)) cn))])), (tg cn, .inl (cI, 16, .inl ((upR tr cn ((fX5_copy (tr cn) (tr an) (ln an)).2)) cn)))] := hD.sub [(2 + 2 * cn), (3 + 2 * cn)] (by simp [va_nd] <;> omega) (pmapc (psw_s (by omega)) (pmapc (psw_t (by omega)) pmapn))
              refine cx_v (va_runV (As := []) (rest := []) ⟨hx, hb, hml, hown, hts⟩ (c_X5_mirror l D cI H.size (sg cn) (tg cn) ((upR tr cn ((fX5_copy (tr cn) (tr an) (ln an)).2)) cn) ((updN ln cn ((fX5_copy (tr cn) (tr an) (ln an)).1)) cn) (by first | (rw [updN_at, cp1]; omega) | (rw [updN_at, cps1]; omega))) (cwV 0 hts gX6_made_X5_mirror rfl rfl rfl (by decide +kernel) ⟨(Nat.le_of_ble_eq_true rfl), (Nat.le_of_ble_eq_true rfl)⟩) (wr_preV hPc hDc hKi rfl (q0 := 0) rfl) rfl rfl hl.1 rfl (lv_room (Nat.le_of_ble_eq_true rfl)) dX6_made_67 ⟨Nat.zero_le _, Nat.zero_le _⟩) hP hD hS hA [(2 + 2 * cn), (3 + 2 * cn)] (pmapc (psw_s (by omega)) (pmapc (psw_t (by omega)) pmapn)) [sg cn, tg cn] rfl rfl (fun H locs hP hD hS => ?_)
              rw [psw_sign (by omega)] at hP hD
              have hP : va_P D vwCl (PSW cI cS h sa sg tg (upR (upR tr cn ((fX5_copy (tr cn) (tr an) (ln an)).2)) cn (fX5_mirror ((upR tr cn ((fX5_copy (tr cn) (tr an) (ln an)).2)) cn) ((updN ln cn ((fX5_copy (tr cn) (tr an) (ln an)).1)) cn))) (updN (updN ln cn ((fX5_copy (tr cn) (tr an) (ln an)).1)) cn ((updN ln cn ((fX5_copy (tr cn) (tr an) (ln an)).1)) cn)) fo ft fl fn ro tp tq per rea rn wo tn td rw wn od sr) H := hP
              have hD : va_D A (PSW cI cS h sa sg tg (upR (upR tr cn ((fX5_copy (tr cn) (tr an) (ln an)).2)) cn (fX5_mirror ((upR tr cn ((fX5_copy (tr cn) (tr an) (ln an)).2)) cn) ((updN ln cn ((fX5_copy (tr cn) (tr an) (ln an)).1)) cn))) (updN (updN ln cn ((fX5_copy (tr cn) (tr an) (ln an)).1)) cn ((updN ln cn ((fX5_copy (tr cn) (tr an) (ln an)).1)) cn)) fo ft fl fn ro tp tq per rea rn wo tn td rw wn od sr) := hD
              refine lv_goto (tgt := 78) hx hb dX6_made_70 (by decide) ?_
              refine lv_aload hx hb dX6_made_78 (lv_at hl 0 rfl) ?_
              refine va_get (D := D) (ci := 3) (v := .int (nI ((updN (updN ln cn ((fX5_copy (tr cn) (tr an) (ln an)).1)) cn ((updN ln cn ((fX5_copy (tr cn) (tr an) (ln an)).1)) cn)) cn))) (C := RX5) (T := TX5) (N := 2) hx hb hts hinX5 hown hK.1 hP (2 + 2 * cn) (psw_s (by omega)) rfl 1 (by decide) hf73 (fun _ h9 => h9) rfl dX6_made_80 ?_
              subst hF
              subst hQ
              exact W.iret (v := nI ((updN (updN ln cn ((fX5_copy (tr cn) (tr an) (ln an)).1)) cn ((updN ln cn ((fX5_copy (tr cn) (tr an) (ln an)).1)) cn)) cn)) hx hb hr (fun u9 ht hW => ⟨⟨_, (), rfl, rfl, by rw [← ht] at hP; exact hP⟩, hS.F ht⟩) hS.2.2 dX6_made_83
          · rw [if_pos c49] at hF
            refine lv_aload hx hb dX6_made_52 (lv_at hl 0 rfl) ?_
            have hPc : va_P D vwCl [(sg cn, .inr (3, [.ref (tg cn), .int (nI ((updN ln cn ((fX5_copy (tr cn) (tr an) (ln an)).1)) cn))])), (tg cn, .inl (cI, 16, .inl ((upR tr cn ((fX5_copy (tr cn) (tr an) (ln an)).2)) cn)))] H := (pcons (i := (2 + 2 * cn)) hP (psw_s (by omega)) (pcons (i := (3 + 2 * cn)) hP (psw_t (by omega)) (pnil _ _ _)))
            have hDc : va_D A [(sg cn, .inr (3, [.ref (tg cn), .int (nI ((updN ln cn ((fX5_copy (tr cn) (tr an) (ln an)).1)) cn))])), (tg cn, .inl (cI, 16, .inl ((upR tr cn ((fX5_copy (tr cn) (tr an) (ln an)).2)) cn)))] := hD.sub [(2 + 2 * cn), (3 + 2 * cn)] (by simp [va_nd] <;> omega) (pmapc (psw_s (by omega)) (pmapc (psw_t (by omega)) pmapn))
            refine cx_v (va_runV (As := []) (rest := []) ⟨hx, hb, hml, hown, hts⟩ (c_X5_reverse l D cI H.size (sg cn) (tg cn) ((upR tr cn ((fX5_copy (tr cn) (tr an) (ln an)).2)) cn) ((updN ln cn ((fX5_copy (tr cn) (tr an) (ln an)).1)) cn) (by first | (rw [updN_at, cp1]; omega) | (rw [updN_at, cps1]; omega))) (cwV 0 hts gX6_made_X5_reverse rfl rfl rfl (by decide +kernel) ⟨(Nat.le_of_ble_eq_true rfl), (Nat.le_of_ble_eq_true rfl)⟩) (wr_preV hPc hDc hKi rfl (q0 := 0) rfl) rfl rfl hl.1 rfl (lv_room (Nat.le_of_ble_eq_true rfl)) dX6_made_54 ⟨Nat.zero_le _, Nat.zero_le _⟩) hP hD hS hA [(2 + 2 * cn), (3 + 2 * cn)] (pmapc (psw_s (by omega)) (pmapc (psw_t (by omega)) pmapn)) [sg cn, tg cn] rfl rfl (fun H locs hP hD hS => ?_)
            rw [psw_sign (by omega)] at hP hD
            have hP : va_P D vwCl (PSW cI cS h sa sg tg (upR (upR tr cn ((fX5_copy (tr cn) (tr an) (ln an)).2)) cn (fX5_reverse ((upR tr cn ((fX5_copy (tr cn) (tr an) (ln an)).2)) cn) ((updN ln cn ((fX5_copy (tr cn) (tr an) (ln an)).1)) cn))) (updN (updN ln cn ((fX5_copy (tr cn) (tr an) (ln an)).1)) cn ((updN ln cn ((fX5_copy (tr cn) (tr an) (ln an)).1)) cn)) fo ft fl fn ro tp tq per rea rn wo tn td rw wn od sr) H := hP
            have hD : va_D A (PSW cI cS h sa sg tg (upR (upR tr cn ((fX5_copy (tr cn) (tr an) (ln an)).2)) cn (fX5_reverse ((upR tr cn ((fX5_copy (tr cn) (tr an) (ln an)).2)) cn) ((updN ln cn ((fX5_copy (tr cn) (tr an) (ln an)).1)) cn))) (updN (updN ln cn ((fX5_copy (tr cn) (tr an) (ln an)).1)) cn ((updN ln cn ((fX5_copy (tr cn) (tr an) (ln an)).1)) cn)) fo ft fl fn ro tp tq per rea rn wo tn td rw wn od sr) := hD
            refine lv_goto (tgt := 78) hx hb dX6_made_57 (by decide) ?_
            refine lv_aload hx hb dX6_made_78 (lv_at hl 0 rfl) ?_
            refine va_get (D := D) (ci := 3) (v := .int (nI ((updN (updN ln cn ((fX5_copy (tr cn) (tr an) (ln an)).1)) cn ((updN ln cn ((fX5_copy (tr cn) (tr an) (ln an)).1)) cn)) cn))) (C := RX5) (T := TX5) (N := 2) hx hb hts hinX5 hown hK.1 hP (2 + 2 * cn) (psw_s (by omega)) rfl 1 (by decide) hf73 (fun _ h9 => h9) rfl dX6_made_80 ?_
            subst hF
            subst hQ
            exact W.iret (v := nI ((updN (updN ln cn ((fX5_copy (tr cn) (tr an) (ln an)).1)) cn ((updN ln cn ((fX5_copy (tr cn) (tr an) (ln an)).1)) cn)) cn)) hx hb hr (fun u9 ht hW => ⟨⟨_, (), rfl, rfl, by rw [← ht] at hP; exact hP⟩, hS.F ht⟩) hS.2.2 dX6_made_83
      · rw [if_pos c23] at hF
        refine lv_bipush (v := (-102)) hx hb dX6_made_26 (by decide) ?_
        subst hF
        subst hQ
        exact W.iret (v := (-102)) hx hb hr (fun u9 ht hW => ⟨⟨_, (), rfl, rfl, by rw [← ht] at hP; exact hP⟩, hS.F ht⟩) hS.2.2 dX6_made_28
    · rw [if_pos c11] at hF
      refine lv_bipush (v := (-101)) hx hb dX6_made_14 (by decide) ?_
      subst hF
      subst hQ
      exact W.iret (v := (-101)) hx hb hr (fun u9 ht hW => ⟨⟨_, (), rfl, rfl, by rw [← ht] at hP; exact hP⟩, hS.F ht⟩) hS.2.2 dX6_made_16
