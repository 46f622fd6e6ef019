theorem own_ix {c n k : Nat} (h : k + 1 ≤ n) : 16 * nI c + nI n - 1 - nI k = nI (16 * c + n - 1 - k) := by
  rw [idx16, nI_sub1k (by omega)]
theorem ans_ix {a k n : Nat} {kk : Int32} (h : ¬ fX7_in (kk - nI k) 0 (nI n - 1) = 0) (hn : n ≤ 16) : ∃ j, j < n ∧ kk - nI k = nI j ∧ 16 * nI a + kk - nI k = nI (16 * a + j) := by
  obtain ⟨j, hj, e⟩ := in_m1 h (by omega)
  refine ⟨j, hj, e, ?_⟩
  rw [Int32.sub_eq_add_neg, Int32.add_assoc, ← Int32.sub_eq_add_neg, e, idx16]
theorem ans_in {a k n : Nat} {kk : Int32} (h : ¬ fX7_in (kk - nI k) 0 (nI n - 1) = 0) (hn : n ≤ 16) (ha : a < 6) : vp_in (16 * nI a + kk - nI k) 96 := by
  obtain ⟨j, hj, -, e⟩ := ans_ix (a := a) h hn
  rw [e]
  exact vp_in_nI (by omega) (by omega)
theorem sh_pos {x : Nat} (h : ¬ lg_cmp (lN x) 0 = 0) : 0 < x := by
  rcases Nat.eq_zero_or_pos x with e | e
  · subst e
    exact absurd rfl h
  · exact e
def F_X7_filter_20 (nn : Nat) : Nat → Nat → (Nat → Int32) → (Int32 × Nat × (Nat → Int32))
  | 0, k20, we => (nI nn, nn, we)
  | r20 + 1, k20, we => F_X7_filter_20 nn r20 (k20 + 1) (upd we k20 0)
def fX7_filter (fn : Nat) (we : Nat → Int32) (xn : Int32) : Int32 × Nat × (Nat → Int32) := (if (fX7_in xn 1 24) = 0 then ((-102), fn, we) else F_X7_filter_20 (xn.toNatClampNeg) (24 - 0) 0 we)
abbrev rmX7_filter : Room := { frames := 1, cells := 0, slots := 0, locals := 22 }
set_option maxHeartbeats 4000000 in
set_option maxRecDepth 100000 in
theorem c_X7_filter (l : Launch) (D : va_G) (cI : ClassId) (sz : Nat) (h : Nat) (a0 : Nat) (a1 : Nat) (a3 : Nat) (a5 : Nat) (a6 : Nat) (a8 : Nat) (a12 : Nat) (sn : Nat → Nat) (tu : Nat → Int32) (fn : Nat) (we : Nat → Int32) (rn : Nat) (per : Nat → Nat) (rea : Nat → Int32) (wn : Nat) (rw : Nat → Int32) (bs : Nat) (re : Int32) (ot : Int32) (cp : Nat → Int32) (ab : Int64) (be : Int64) (hh : Int64) (xn : Int32)  : Met l yX7_filter wsX7_filter rmX7_filter (va_Pc [.ref h, .int xn] (wrP D [(cI, .int)] [(h, .inr (5, [.ref a0, .ref a1, .int (nI fn), .ref a3, .int (nI rn), .ref a5, .ref a6, .int (nI wn), .ref a8, .int (nI bs), .int re, .int ot, .ref a12, .long ab, .long be, .long hh])), (a0, .inl (cI, 6, .inl (fun i => nI (sn i)))), (a1, .inl (cI, 96, .inl tu)), (a3, .inl (cI, 24, .inl we)), (a5, .inl (cI, 4, .inl (fun i => nI (per i)))), (a6, .inl (cI, 4, .inl rea)), (a8, .inl (cI, 64, .inl rw)), (a12, .inl (cI, 16, .inl cp))] sz)) (va_Qi (fun r9 (_ : Unit) => r9 = (fX7_filter fn we xn).1) (fun _ u9 => va_P D vwCl [(h, .inr (5, [.ref a0, .ref a1, .int (nI ((fX7_filter fn we xn).2.1)), .ref a3, .int (nI rn), .ref a5, .ref a6, .int (nI wn), .ref a8, .int (nI bs), .int re, .int ot, .ref a12, .long ab, .long be, .long hh])), (a0, .inl (cI, 6, .inl (fun i => nI (sn i)))), (a1, .inl (cI, 96, .inl tu)), (a3, .inl (cI, 24, .inl ((fX7_filter fn we xn).2.2))), (a5, .inl (cI, 4, .inl (fun i => nI (per i)))), (a6, .inl (cI, 4, .inl rea)), (a8, .inl (cI, 64, .inl rw)), (a12, .inl (cI, 16, .inl cp))] u9.heap) (va_A [(h, .inr (5, [.ref a0, .ref a1, .int (nI fn), .ref a3, .int (nI rn), .ref a5, .ref a6, .int (nI wn), .ref a8, .int (nI bs), .int re, .int ot, .ref a12, .long ab, .long be, .long hh])), (a0, .inl (cI, 6, .inl (fun i => nI (sn i)))), (a1, .inl (cI, 96, .inl tu)), (a3, .inl (cI, 24, .inl we)), (a5, .inl (cI, 4, .inl (fun i => nI (per i)))), (a6, .inl (cI, 4, .inl rea)), (a8, .inl (cI, 64, .inl rw)), (a12, .inl (cI, 16, .inl cp))] sz)) 0 0 (va_A [(h, .inr (5, [.ref a0, .ref a1, .int (nI fn), .ref a3, .int (nI rn), .ref a5, .ref a6, .int (nI wn), .ref a8, .int (nI bs), .int re, .int ot, .ref a12, .long ab, .long be, .long hh])), (a0, .inl (cI, 6, .inl (fun i => nI (sn i)))), (a1, .inl (cI, 96, .inl tu)), (a3, .inl (cI, 24, .inl we)), (a5, .inl (cI, 4, .inl (fun i => nI (per i)))), (a6, .inl (cI, 4, .inl rea)), (a8, .inl (cI, 64, .inl rw)), (a12, .inl (cI, 16, .inl cp))] sz) := by
  generalize hF : fX7_filter fn we xn = T
  refine Met.ofW (cc := cX7_filter) (maxL := 3) (ret := (some .int)) (by decide) rfl ?_
  intro p e s m args below meth c s₁ B hml hv
  obtain ⟨rfl, hsz, hP, hK, hD0⟩ := hv
  have hx := B.exec
  have hb := B.bytes
  have hr := B.returns
  have hts := atoms_spec (ws := wsX7_filter) B.pre
  have hown : s.vm.findClass RX7 = some m.cls := findClass_of_methodNamed B.named
  have hlocks := B.notSynchronized
  have hinX7 : ∀ w ∈ u_ws RX7 TX7 16, w ∈ wsX7_filter := by decide +kernel
  have hf16 := hts (.fieldLink RX7 16 "PulseSignsModel" "filterSize" "I") (by decide +kernel)
  have hf20 := hts (.fieldLink RX7 20 "PulseSignsModel" "weights" "[I") (by decide +kernel)
  subst hsz
  have hD := hD0.self (sz := s.heap.size)
  generalize hAe : va_A [(h, .inr (5, [.ref a0, .ref a1, .int (nI fn), .ref a3, .int (nI rn), .ref a5, .ref a6, .int (nI wn), .ref a8, .int (nI bs), .int re, .int ot, .ref a12, .long ab, .long be, .long hh])), (a0, .inl (cI, 6, .inl (fun i => nI (sn i)))), (a1, .inl (cI, 96, .inl tu)), (a3, .inl (cI, 24, .inl we)), (a5, .inl (cI, 4, .inl (fun i => nI (per i)))), (a6, .inl (cI, 4, .inl rea)), (a8, .inl (cI, 64, .inl rw)), (a12, .inl (cI, 16, .inl cp))] s.heap.size = A at hD ⊢
  have hA : ∀ q : Nat, s.heap.size ≤ q → A q := fun q h => by rw [← hAe]; exact Or.inr h
  have hS : va_S A s.heap s.heap [] := va_S.rf
  have hP : va_P D vwCl [(h, .inr (5, [.ref a0, .ref a1, .int (nI fn), .ref a3, .int (nI rn), .ref a5, .ref a6, .int (nI wn), .ref a8, .int (nI bs), .int re, .int ot, .ref a12, .long ab, .long be, .long hh])), (a0, .inl (cI, 6, .inl (fun i => nI (sn i)))), (a1, .inl (cI, 96, .inl tu)), (a3, .inl (cI, 24, .inl we)), (a5, .inl (cI, 4, .inl (fun i => nI (per i)))), (a6, .inl (cI, 4, .inl rea)), (a8, .inl (cI, 64, .inl rw)), (a12, .inl (cI, 16, .inl cp))] s.heap := hP
  have hl := lv_entry ([.ref h, .int xn]) (n := 3) (Nat.le_of_ble_eq_true rfl)
  rw [lg_entry_eq]
  generalize (lg_sl ([.ref h, .int xn]) ++ List.replicate (3 - (lg_sl ([.ref h, .int xn])).length) Slot.unset).toArray = ls at hl ⊢
  refine w_Q (fun Q hQ => ?_)
  have hl : lv_has ls 3 [(0, .ref h), (1, .int xn)] := hl
  rw [fX7_filter] at hF
  refine lv_iload_n hx hb dX7_filter_0 rfl (lv_at hl 1 rfl) ?_
  refine lv_iconst (v := 1) hx hb dX7_filter_1 (by decide) ?_
  refine lv_bipush (v := 24) hx hb dX7_filter_2 (by decide) ?_
  have hPc := hP.sub (ws' := []) [] rfl
  refine cs_i (va_runS (As := [.int xn, .int 1, .int 24]) (rest := []) ⟨hx, hb, hml, hown, hts⟩ (c_X7_in l D cI xn 1 24 ) (va_cwS 3 hts gX7_filter_X7_in rfl rfl rfl (by decide +kernel) ⟨(Nat.le_of_ble_eq_true rfl), (Nat.le_of_ble_eq_true rfl)⟩) (ro_pre hPc hK) rfl rfl hl.1 rfl (lv_room (Nat.le_of_ble_eq_true rfl)) dX7_filter_4 ⟨Nat.zero_le _, Nat.zero_le _⟩) ?_
  refine lv_if_ne (tgt := 13) hx hb dX7_filter_7 (by decide) (fun c7 => ?_) (fun c7 => ?_)
  · rw [if_neg c7] at hF
    obtain ⟨nn, hnn1, hnn, rfl⟩ := in_nat (a := 1) (b := 24) c7 (by omega)
    have e_nn : (nI nn).toNatClampNeg = nn := nI_clamp (by omega)
    try simp only [e_nn] at hF
    refine lv_aload_n hx hb dX7_filter_13 rfl (lv_at hl 0 rfl) ?_
    refine lv_iload_n hx hb dX7_filter_14 rfl (lv_at hl 1 rfl) ?_
    refine va_put (D := D) (ci := 5) (v := .int (nI nn)) (ty := .int) (C := RX7) (T := TX7) (N := 16) hx hb hts hinX7 tyX7 tyX7_ok nmX7 hown hK.1 hP hD hS 0 rfl rfl 2 (by decide) hf16 (fun _ h9 => h9) rfl (by decide +kernel) rfl rfl (Nat.le_of_ble_eq_true rfl) dX7_filter_15 (fun H locs hP hD hS => ?_)
    have hP : va_P D vwCl [(h, .inr (5, [.ref a0, .ref a1, .int (nI nn), .ref a3, .int (nI rn), .ref a5, .ref a6, .int (nI wn), .ref a8, .int (nI bs), .int re, .int ot, .ref a12, .long ab, .long be, .long hh])), (a0, .inl (cI, 6, .inl (fun i => nI (sn i)))), (a1, .inl (cI, 96, .inl tu)), (a3, .inl (cI, 24, .inl we)), (a5, .inl (cI, 4, .inl (fun i => nI (per i)))), (a6, .inl (cI, 4, .inl rea)), (a8, .inl (cI, 64, .inl rw)), (a12, .inl (cI, 16, .inl cp))] H := hP
    have hD : va_D A [(h, .inr (5, [.ref a0, .ref a1, .int (nI nn), .ref a3, .int (nI rn), .ref a5, .ref a6, .int (nI wn), .ref a8, .int (nI bs), .int re, .int ot, .ref a12, .long ab, .long be, .long hh])), (a0, .inl (cI, 6, .inl (fun i => nI (sn i)))), (a1, .inl (cI, 96, .inl tu)), (a3, .inl (cI, 24, .inl we)), (a5, .inl (cI, 4, .inl (fun i => nI (per i)))), (a6, .inl (cI, 4, .inl rea)), (a8, .inl (cI, 64, .inl rw)), (a12, .inl (cI, 16, .inl cp))] := hD
    refine lv_iconst (v := 0) hx hb dX7_filter_18 (by decide) ?_
    refine lv_istore_n (lv' := [(2, .int 0), (0, .ref h), (1, .int (nI nn))]) hx hb dX7_filter_19 rfl hl (by decide) rfl (fun ls hl => ?_)
    have lp20 : ∀ (r20 k20 : Nat) (we : Nat → Int32) (H : Heap) (locs : List Loc) (ls : Array Slot), r20 = 24 - k20 → k20 ≤ 24 + 1 → va_P D vwCl [(h, .inr (5, [.ref a0, .ref a1, .int (nI nn), .ref a3, .int (nI rn), .ref a5, .ref a6, .int (nI wn), .ref a8, .int (nI bs), .int re, .int ot, .ref a12, .long ab, .long be, .long hh])), (a0, .inl (cI, 6, .inl (fun i => nI (sn i)))), (a1, .inl (cI, 96, .inl tu)), (a3, .inl (cI, 24, .inl we)), (a5, .inl (cI, 4, .inl (fun i => nI (per i)))), (a6, .inl (cI, 4, .inl rea)), (a8, .inl (cI, 64, .inl rw)), (a12, .inl (cI, 16, .inl cp))] H → va_D A [(h, .inr (5, [.ref a0, .ref a1, .int (nI nn), .ref a3, .int (nI rn), .ref a5, .ref a6, .int (nI wn), .ref a8, .int (nI bs), .int re, .int ot, .ref a12, .long ab, .long be, .long hh])), (a0, .inl (cI, 6, .inl (fun i => nI (sn i)))), (a1, .inl (cI, 96, .inl tu)), (a3, .inl (cI, 24, .inl we)), (a5, .inl (cI, 4, .inl (fun i => nI (per i)))), (a6, .inl (cI, 4, .inl rea)), (a8, .inl (cI, 64, .inl rw)), (a12, .inl (cI, 16, .inl cp))] → va_S A s.heap H locs → lv_has ls 3 [(0, .ref h), (1, .int (nI nn)), (2, .int (nI k20))] → F_X7_filter_20 nn r20 k20 we = T → W p l e (headSpec wsX7_filter rmX7_filter).room s m ([.ref h, .int (nI nn)] : List Value).toArray below meth c H locs 0 0 Q (F0 m 20 ls []) := by
      intro r20
      induction r20 with
      | zero =>
        intro k20 we H locs ls hi20_0 hi20_1 hP hD hS hl hF
        rw [F_X7_filter_20] at hF
        refine lv_iload_n hx hb dX7_filter_20 rfl (lv_at hl 2 rfl) ?_
        refine lv_bipush (v := 24) hx hb dX7_filter_21 (by decide) ?_
        refine lv_icmp_ge (tgt := 39) hx hb dX7_filter_23 (by decide) (fun c23 => ?_) (fun c23 => ?_)
        · skip
          refine lv_iload_n hx hb dX7_filter_39 rfl (lv_at hl 1 rfl) ?_
          subst hF
          subst hQ
          exact W.iret (v := nI nn) hx hb hr (fun u9 ht hW => ⟨⟨_, (), rfl, rfl, by rw [← ht] at hP; exact hP⟩, hS.F ht⟩) hS.2.2 dX7_filter_40
        · exact False.elim (c23 (nI_le (a := 24) (b := k20) (by omega) (by omega)))
      | succ r20 ih20 =>
        intro k20 we H locs ls hi20_0 hi20_1 hP hD hS hl hF
        rw [F_X7_filter_20] at hF
        refine lv_iload_n hx hb dX7_filter_20 rfl (lv_at hl 2 rfl) ?_
        refine lv_bipush (v := 24) hx hb dX7_filter_21 (by decide) ?_
        refine lv_icmp_ge (tgt := 39) hx hb dX7_filter_23 (by decide) (fun c23 => ?_) (fun c23 => ?_)
        · exact False.elim (nI_ge (a := k20) (b := 24) (by omega) (by omega) c23)
        · skip
          refine lv_aload_n hx hb dX7_filter_26 rfl (lv_at hl 0 rfl) ?_
          refine va_get (D := D) (ci := 5) (v := .ref a3) (C := RX7) (T := TX7) (N := 16) hx hb hts hinX7 hown hK.1 hP 0 rfl rfl 3 (by decide) hf20 (fun _ h9 => h9) rfl dX7_filter_27 ?_
          refine lv_iload_n hx hb dX7_filter_30 rfl (lv_at hl 2 rfl) ?_
          refine lv_iconst (v := 0) hx hb dX7_filter_31 (by decide) ?_
          refine w_ast hx hb hK hP hD hS 3 0 rfl rfl (k20) rfl (by omega) (by omega) dX7_filter_32 (fun H locs hP hD hS => ?_)
          have hP : va_P D vwCl [(h, .inr (5, [.ref a0, .ref a1, .int (nI nn), .ref a3, .int (nI rn), .ref a5, .ref a6, .int (nI wn), .ref a8, .int (nI bs), .int re, .int ot, .ref a12, .long ab, .long be, .long hh])), (a0, .inl (cI, 6, .inl (fun i => nI (sn i)))), (a1, .inl (cI, 96, .inl tu)), (a3, .inl (cI, 24, .inl (upd we k20 0))), (a5, .inl (cI, 4, .inl (fun i => nI (per i)))), (a6, .inl (cI, 4, .inl rea)), (a8, .inl (cI, 64, .inl rw)), (a12, .inl (cI, 16, .inl cp))] H := hP
          have hD : va_D A [(h, .inr (5, [.ref a0, .ref a1, .int (nI nn), .ref a3, .int (nI rn), .ref a5, .ref a6, .int (nI wn), .ref a8, .int (nI bs), .int re, .int ot, .ref a12, .long ab, .long be, .long hh])), (a0, .inl (cI, 6, .inl (fun i => nI (sn i)))), (a1, .inl (cI, 96, .inl tu)), (a3, .inl (cI, 24, .inl (upd we k20 0))), (a5, .inl (cI, 4, .inl (fun i => nI (per i)))), (a6, .inl (cI, 4, .inl rea)), (a8, .inl (cI, 64, .inl rw)), (a12, .inl (cI, 16, .inl cp))] := hD
          refine lv_iinc (v := nI (k20 + 1)) (lv' := [(2, .int (nI (k20 + 1))), (0, .ref h), (1, .int (nI nn))]) hx hb dX7_filter_33 hl (k := 2) rfl (nI_1 _) (by decide) rfl (fun ls hl => ?_)
          refine lv_goto (tgt := 20) hx hb dX7_filter_36 (by decide) ?_
          exact ih20 (k20 + 1) (upd we k20 0) H locs ls (by omega) (by omega) hP hD hS (lv_sub hl [1, 2, 0] rfl) hF
    exact lp20 (24 - 0) 0 we H _ ls rfl (by omega) hP hD hS (lv_sub hl [1, 2, 0] rfl) hF
  · rw [if_pos c7] at hF
    refine lv_bipush (v := (-102)) hx hb dX7_filter_10 (by decide) ?_
    subst hF
    subst hQ
    exact W.iret (v := (-102)) hx hb hr (fun u9 ht hW => ⟨⟨_, (), rfl, rfl, by rw [← ht] at hP; exact hP⟩, hS.F ht⟩) hS.2.2 dX7_filter_12
def fX7_weight (fn : Nat) (we : Nat → Int32) (xj : Int32) (xv : Int32) : Int32 × (Nat → Int32) := (if (fX7_in xj 0 ((nI fn) - 1)) = 0 then ((-1000), we) else (if (fX7_in xv (-50) 50) = 0 then ((-1001), we) else (we (xj.toNatClampNeg), upd we (xj.toNatClampNeg) xv)))
abbrev rmX7_weight : Room := { frames := 1, cells := 0, slots := 0, locals := 22 }
set_option maxHeartbeats 4000000 in
set_option maxRecDepth 100000 in
theorem c_X7_weight (l : Launch) (D : va_G) (cI : ClassId) (sz : Nat) (h : Nat) (a0 : Nat) (a1 : Nat) (a3 : Nat) (a5 : Nat) (a6 : Nat) (a8 : Nat) (a12 : Nat) (sn : Nat → Nat) (tu : Nat → Int32) (fn : Nat) (we : Nat → Int32) (rn : Nat) (per : Nat → Nat) (rea : Nat → Int32) (wn : Nat) (rw : Nat → Int32) (bs : Nat) (re : Int32) (ot : Int32) (cp : Nat → Int32) (ab : Int64) (be : Int64) (hh : Int64) (xj : Int32) (xv : Int32) (hfn : 1 ≤ fn ∧ fn ≤ 24) : Met l yX7_weight wsX7_weight rmX7_weight (va_Pc [.ref h, .int xj, .int xv] (wrP D [(cI, .int)] [(h, .inr (5, [.ref a0, .ref a1, .int (nI fn), .ref a3, .int (nI rn), .ref a5, .ref a6, .int (nI wn), .ref a8, .int (nI bs), .int re, .int ot, .ref a12, .long ab, .long be, .long hh])), (a0, .inl (cI, 6, .inl (fun i => nI (sn i)))), (a1, .inl (cI, 96, .inl tu)), (a3, .inl (cI, 24, .inl we)), (a5, .inl (cI, 4, .inl (fun i => nI (per i)))), (a6, .inl (cI, 4, .inl rea)), (a8, .inl (cI, 64, .inl rw)), (a12, .inl (cI, 16, .inl cp))] sz)) (va_Qi (fun r9 (_ : Unit) => r9 = (fX7_weight fn we xj xv).1) (fun _ u9 => va_P D vwCl [(h, .inr (5, [.ref a0, .ref a1, .int (nI fn), .ref a3, .int (nI rn), .ref a5, .ref a6, .int (nI wn), .ref a8, .int (nI bs), .int re, .int ot, .ref a12, .long ab, .long be, .long hh])), (a0, .inl (cI, 6, .inl (fun i => nI (sn i)))), (a1, .inl (cI, 96, .inl tu)), (a3, .inl (cI, 24, .inl ((fX7_weight fn we xj xv).2))), (a5, .inl (cI, 4, .inl (fun i => nI (per i)))), (a6, .inl (cI, 4, .inl rea)), (a8, .inl (cI, 64, .inl rw)), (a12, .inl (cI, 16, .inl cp))] u9.heap) (va_A [(h, .inr (5, [.ref a0, .ref a1, .int (nI fn), .ref a3, .int (nI rn), .ref a5, .ref a6, .int (nI wn), .ref a8, .int (nI bs), .int re, .int ot, .ref a12, .long ab, .long be, .long hh])), (a0, .inl (cI, 6, .inl (fun i => nI (sn i)))), (a1, .inl (cI, 96, .inl tu)), (a3, .inl (cI, 24, .inl we)), (a5, .inl (cI, 4, .inl (fun i => nI (per i)))), (a6, .inl (cI, 4, .inl rea)), (a8, .inl (cI, 64, .inl rw)), (a12, .inl (cI, 16, .inl cp))] sz)) 0 0 (va_A [(h, .inr (5, [.ref a0, .ref a1, .int (nI fn), .ref a3, .int (nI rn), .ref a5, .ref a6, .int (nI wn), .ref a8, .int (nI bs), .int re, .int ot, .ref a12, .long ab, .long be, .long hh])), (a0, .inl (cI, 6, .inl (fun i => nI (sn i)))), (a1, .inl (cI, 96, .inl tu)), (a3, .inl (cI, 24, .inl we)), (a5, .inl (cI, 4, .inl (fun i => nI (per i)))), (a6, .inl (cI, 4, .inl rea)), (a8, .inl (cI, 64, .inl rw)), (a12, .inl (cI, 16, .inl cp))] sz) := by
  generalize hF : fX7_weight fn we xj xv = T
  refine Met.ofW (cc := cX7_weight) (maxL := 4) (ret := (some .int)) (by decide) rfl ?_
  intro p e s m args below meth c s₁ B hml hv
  obtain ⟨rfl, hsz, hP, hK, hD0⟩ := hv
  have hx := B.exec
  have hb := B.bytes
  have hr := B.returns
  have hts := atoms_spec (ws := wsX7_weight) B.pre
  have hown : s.vm.findClass RX7 = some m.cls := findClass_of_methodNamed B.named
  have hlocks := B.notSynchronized
  have hinX7 : ∀ w ∈ u_ws RX7 TX7 16, w ∈ wsX7_weight := by decide +kernel
  have hf16 := hts (.fieldLink RX7 16 "PulseSignsModel" "filterSize" "I") (by decide +kernel)
  have hf20 := hts (.fieldLink RX7 20 "PulseSignsModel" "weights" "[I") (by decide +kernel)
  subst hsz
  have hD := hD0.self (sz := s.heap.size)
  generalize hAe : va_A [(h, .inr (5, [.ref a0, .ref a1, .int (nI fn), .ref a3, .int (nI rn), .ref a5, .ref a6, .int (nI wn), .ref a8, .int (nI bs), .int re, .int ot, .ref a12, .long ab, .long be, .long hh])), (a0, .inl (cI, 6, .inl (fun i => nI (sn i)))), (a1, .inl (cI, 96, .inl tu)), (a3, .inl (cI, 24, .inl we)), (a5, .inl (cI, 4, .inl (fun i => nI (per i)))), (a6, .inl (cI, 4, .inl rea)), (a8, .inl (cI, 64, .inl rw)), (a12, .inl (cI, 16, .inl cp))] s.heap.size = A at hD ⊢
  have hA : ∀ q : Nat, s.heap.size ≤ q → A q := fun q h => by rw [← hAe]; exact Or.inr h
  have hS : va_S A s.heap s.heap [] := va_S.rf
  have hP : va_P D vwCl [(h, .inr (5, [.ref a0, .ref a1, .int (nI fn), .ref a3, .int (nI rn), .ref a5, .ref a6, .int (nI wn), .ref a8, .int (nI bs), .int re, .int ot, .ref a12, .long ab, .long be, .long hh])), (a0, .inl (cI, 6, .inl (fun i => nI (sn i)))), (a1, .inl (cI, 96, .inl tu)), (a3, .inl (cI, 24, .inl we)), (a5, .inl (cI, 4, .inl (fun i => nI (per i)))), (a6, .inl (cI, 4, .inl rea)), (a8, .inl (cI, 64, .inl rw)), (a12, .inl (cI, 16, .inl cp))] s.heap := hP
  have hl := lv_entry ([.ref h, .int xj, .int xv]) (n := 4) (Nat.le_of_ble_eq_true rfl)
  rw [lg_entry_eq]
  generalize (lg_sl ([.ref h, .int xj, .int xv]) ++ List.replicate (4 - (lg_sl ([.ref h, .int xj, .int xv])).length) Slot.unset).toArray = ls at hl ⊢
  refine w_Q (fun Q hQ => ?_)
  have hl : lv_has ls 4 [(0, .ref h), (1, .int xj), (2, .int xv)] := hl
  rw [fX7_weight] at hF
  refine lv_iload_n hx hb dX7_weight_0 rfl (lv_at hl 1 rfl) ?_
  refine lv_iconst (v := 0) hx hb dX7_weight_1 (by decide) ?_
  refine lv_aload_n hx hb dX7_weight_2 rfl (lv_at hl 0 rfl) ?_
  refine va_get (D := D) (ci := 5) (v := .int (nI fn)) (C := RX7) (T := TX7) (N := 16) hx hb hts hinX7 hown hK.1 hP 0 rfl rfl 2 (by decide) hf16 (fun _ h9 => h9) rfl dX7_weight_3 ?_
  refine lv_iconst (v := 1) hx hb dX7_weight_6 (by decide) ?_
  refine lv_isub hx hb dX7_weight_7 ?_
  have hPc := hP.sub (ws' := []) [] rfl
  refine cs_i (va_runS (As := [.int xj, .int 0, .int ((nI fn) - 1)]) (rest := []) ⟨hx, hb, hml, hown, hts⟩ (c_X7_in l D cI xj 0 ((nI fn) - 1) ) (va_cwS 3 hts gX7_weight_X7_in rfl rfl rfl (by decide +kernel) ⟨(Nat.le_of_ble_eq_true rfl), (Nat.le_of_ble_eq_true rfl)⟩) (ro_pre hPc hK) rfl rfl hl.1 rfl (lv_room (Nat.le_of_ble_eq_true rfl)) dX7_weight_8 ⟨Nat.zero_le _, Nat.zero_le _⟩) ?_
  refine lv_if_ne (tgt := 18) hx hb dX7_weight_11 (by decide) (fun c11 => ?_) (fun c11 => ?_)
  · rw [if_neg c11] at hF
    obtain ⟨jn, hjn, rfl⟩ := in_m1 c11 (by omega)
    have e_jn : (nI jn).toNatClampNeg = jn := nI_clamp (by omega)
    try simp only [e_jn] at hF
    refine lv_iload_n hx hb dX7_weight_18 rfl (lv_at hl 2 rfl) ?_
    refine lv_bipush (v := (-50)) hx hb dX7_weight_19 (by decide) ?_
    refine lv_bipush (v := 50) hx hb dX7_weight_21 (by decide) ?_
    have hPc := hP.sub (ws' := []) [] rfl
    refine cs_i (va_runS (As := [.int xv, .int (-50), .int 50]) (rest := []) ⟨hx, hb, hml, hown, hts⟩ (c_X7_in l D cI xv (-50) 50 ) (va_cwS 3 hts gX7_weight_X7_in rfl rfl rfl (by decide +kernel) ⟨(Nat.le_of_ble_eq_true rfl), (Nat.le_of_ble_eq_true rfl)⟩) (ro_pre hPc hK) rfl rfl hl.1 rfl (lv_room (Nat.le_of_ble_eq_true rfl)) dX7_weight_23 ⟨Nat.zero_le _, Nat.zero_le _⟩) ?_
    refine lv_if_ne (tgt := 33) hx hb dX7_weight_26 (by decide) (fun c26 => ?_) (fun c26 => ?_)
    · rw [if_neg c26] at hF
      refine lv_aload_n hx hb dX7_weight_33 rfl (lv_at hl 0 rfl) ?_
      refine va_get (D := D) (ci := 5) (v := .ref a3) (C := RX7) (T := TX7) (N := 16) hx hb hts hinX7 hown hK.1 hP 0 rfl rfl 3 (by decide) hf20 (fun _ h9 => h9) rfl dX7_weight_34 ?_
      refine lv_iload_n hx hb dX7_weight_37 rfl (lv_at hl 1 rfl) ?_
      refine w_ald hx hb hK hP 3 0 rfl rfl (jn) rfl (by omega) (by omega) dX7_weight_38 ?_
      refine lv_istore_n (lv' := [(3, .int (we jn)), (0, .ref h), (1, .int (nI jn)), (2, .int xv)]) hx hb dX7_weight_39 rfl hl (by decide) rfl (fun ls hl => ?_)
      refine lv_aload_n hx hb dX7_weight_40 rfl (lv_at hl 1 rfl) ?_
      refine va_get (D := D) (ci := 5) (v := .ref a3) (C := RX7) (T := TX7) (N := 16) hx hb hts hinX7 hown hK.1 hP 0 rfl rfl 3 (by decide) hf20 (fun _ h9 => h9) rfl dX7_weight_41 ?_
      refine lv_iload_n hx hb dX7_weight_44 rfl (lv_at hl 2 rfl) ?_
      refine lv_iload_n hx hb dX7_weight_45 rfl (lv_at hl 3 rfl) ?_
      refine w_ast hx hb hK hP hD hS 3 0 rfl rfl (jn) rfl (by omega) (by omega) dX7_weight_46 (fun H locs hP hD hS => ?_)
      have hP : va_P D vwCl [(h, .inr (5, [.ref a0, .ref a1, .int (nI fn), .ref a3, .int (nI rn), .ref a5, .ref a6, .int (nI wn), .ref a8, .int (nI bs), .int re, .int ot, .ref a12, .long ab, .long be, .long hh])), (a0, .inl (cI, 6, .inl (fun i => nI (sn i)))), (a1, .inl (cI, 96, .inl tu)), (a3, .inl (cI, 24, .inl (upd we jn xv))), (a5, .inl (cI, 4, .inl (fun i => nI (per i)))), (a6, .inl (cI, 4, .inl rea)), (a8, .inl (cI, 64, .inl rw)), (a12, .inl (cI, 16, .inl cp))] H := hP
      have hD : va_D A [(h, .inr (5, [.ref a0, .ref a1, .int (nI fn), .ref a3, .int (nI rn), .ref a5, .ref a6, .int (nI wn), .ref a8, .int (nI bs), .int re, .int ot, .ref a12, .long ab, .long be, .long hh])), (a0, .inl (cI, 6, .inl (fun i => nI (sn i)))), (a1, .inl (cI, 96, .inl tu)), (a3, .inl (cI, 24, .inl (upd we jn xv))), (a5, .inl (cI, 4, .inl (fun i => nI (per i)))), (a6, .inl (cI, 4, .inl rea)), (a8, .inl (cI, 64, .inl rw)), (a12, .inl (cI, 16, .inl cp))] := hD
      refine lv_iload_n hx hb dX7_weight_47 rfl (lv_at hl 0 rfl) ?_
      subst hF
      subst hQ
      exact W.iret (v := we jn) hx hb hr (fun u9 ht hW => ⟨⟨_, (), rfl, rfl, by rw [← ht] at hP; exact hP⟩, hS.F ht⟩) hS.2.2 dX7_weight_48
    · rw [if_pos c26] at hF
      refine lv_sipush (v := (-1001)) hx hb dX7_weight_29 (by decide) ?_
      subst hF
      subst hQ
      exact W.iret (v := (-1001)) hx hb hr (fun u9 ht hW => ⟨⟨_, (), rfl, rfl, by rw [← ht] at hP; exact hP⟩, hS.F ht⟩) hS.2.2 dX7_weight_32
  · rw [if_pos c11] at hF
    refine lv_sipush (v := (-1000)) hx hb dX7_weight_14 (by decide) ?_
    subst hF
    subst hQ
    exact W.iret (v := (-1000)) hx hb hr (fun u9 ht hW => ⟨⟨_, (), rfl, rfl, by rw [← ht] at hP; exact hP⟩, hS.F ht⟩) hS.2.2 dX7_weight_17
def F_X7_own_22 (sn : Nat → Nat) (tu : Nat → Int32) (cn : Nat) : Nat → Nat → (Nat → Int32) → (Int32 × Nat × (Nat → Int32))
  | 0, k22, we => (nI (sn cn), (sn cn), we)
  | r22 + 1, k22, we => (if (nI (sn cn)) ≤ (nI k22) then (if (1 : Int32) = 0 then F_X7_own_22 sn tu cn r22 (k22 + 1) (upd we k22 1) else (if (1 : Int32) = 2 then F_X7_own_22 sn tu cn r22 (k22 + 1) (upd we k22 (-1)) else F_X7_own_22 sn tu cn r22 (k22 + 1) (upd we k22 0))) else (if (tu (16 * cn + sn cn - 1 - k22)) = 0 then F_X7_own_22 sn tu cn r22 (k22 + 1) (upd we k22 1) else (if (tu (16 * cn + sn cn - 1 - k22)) = 2 then F_X7_own_22 sn tu cn r22 (k22 + 1) (upd we k22 (-1)) else F_X7_own_22 sn tu cn r22 (k22 + 1) (upd we k22 0))))
def fX7_own (sn : Nat → Nat) (tu : Nat → Int32) (fn : Nat) (we : Nat → Int32) (xc : Int32) : Int32 × Nat × (Nat → Int32) := (if (fX7_isSign xc) = 0 then ((-101), fn, we) else F_X7_own_22 sn tu (xc.toNatClampNeg) (24 - 0) 0 we)
abbrev rmX7_own : Room := { frames := 2, cells := 0, slots := 0, locals := 42 }
set_option maxHeartbeats 4000000 in
set_option maxRecDepth 100000 in
theorem c_X7_own (l : Launch) (D : va_G) (cI : ClassId) (sz : Nat) (h : Nat) (a0 : Nat) (a1 : Nat) (a3 : Nat) (a5 : Nat) (a6 : Nat) (a8 : Nat) (a12 : Nat) (sn : Nat → Nat) (tu : Nat → Int32) (fn : Nat) (we : Nat → Int32) (rn : Nat) (per : Nat → Nat) (rea : Nat → Int32) (wn : Nat) (rw : Nat → Int32) (bs : Nat) (re : Int32) (ot : Int32) (cp : Nat → Int32) (ab : Int64) (be : Int64) (hh : Int64) (xc : Int32) (hsn : ∀ c, c < 6 → 1 ≤ sn c ∧ sn c ≤ 16) : Met l yX7_own wsX7_own rmX7_own (va_Pc [.ref h, .int xc] (wrP D [(cI, .int)] [(h, .inr (5, [.ref a0, .ref a1, .int (nI fn), .ref a3, .int (nI rn), .ref a5, .ref a6, .int (nI wn), .ref a8, .int (nI bs), .int re, .int ot, .ref a12, .long ab, .long be, .long hh])), (a0, .inl (cI, 6, .inl (fun i => nI (sn i)))), (a1, .inl (cI, 96, .inl tu)), (a3, .inl (cI, 24, .inl we)), (a5, .inl (cI, 4, .inl (fun i => nI (per i)))), (a6, .inl (cI, 4, .inl rea)), (a8, .inl (cI, 64, .inl rw)), (a12, .inl (cI, 16, .inl cp))] sz)) (va_Qi (fun r9 (_ : Unit) => r9 = (fX7_own sn tu fn we xc).1) (fun _ u9 => va_P D vwCl [(h, .inr (5, [.ref a0, .ref a1, .int (nI ((fX7_own sn tu fn we xc).2.1)), .ref a3, .int (nI rn), .ref a5, .ref a6, .int (nI wn), .ref a8, .int (nI bs), .int re, .int ot, .ref a12, .long ab, .long be, .long hh])), (a0, .inl (cI, 6, .inl (fun i => nI (sn i)))), (a1, .inl (cI, 96, .inl tu)), (a3, .inl (cI, 24, .inl ((fX7_own sn tu fn we xc).2.2))), (a5, .inl (cI, 4, .inl (fun i => nI (per i)))), (a6, .inl (cI, 4, .inl rea)), (a8, .inl (cI, 64, .inl rw)), (a12, .inl (cI, 16, .inl cp))] u9.heap) (va_A [(h, .inr (5, [.ref a0, .ref a1, .int (nI fn), .ref a3, .int (nI rn), .ref a5, .ref a6, .int (nI wn), .ref a8, .int (nI bs), .int re, .int ot, .ref a12, .long ab, .long be, .long hh])), (a0, .inl (cI, 6, .inl (fun i => nI (sn i)))), (a1, .inl (cI, 96, .inl tu)), (a3, .inl (cI, 24, .inl we)), (a5, .inl (cI, 4, .inl (fun i => nI (per i)))), (a6, .inl (cI, 4, .inl rea)), (a8, .inl (cI, 64, .inl rw)), (a12, .inl (cI, 16, .inl cp))] sz)) 0 0 (va_A [(h, .inr (5, [.ref a0, .ref a1, .int (nI fn), .ref a3, .int (nI rn), .ref a5, .ref a6, .int (nI wn), .ref a8, .int (nI bs), .int re, .int ot, .ref a12, .long ab, .long be, .long hh])), (a0, .inl (cI, 6, .inl (fun i => nI (sn i)))), (a1, .inl (cI, 96, .inl tu)), (a3, .inl (cI, 24, .inl we)), (a5, .inl (cI, 4, .inl (fun i => nI (per i)))), (a6, .inl (cI, 4, .inl rea)), (a8, .inl (cI, 64, .inl rw)), (a12, .inl (cI, 16, .inl cp))] sz) := by
  generalize hF : fX7_own sn tu fn we xc = T
  refine Met.ofW (cc := cX7_own) (maxL := 4) (ret := (some .int)) (by decide) rfl ?_
  intro p e s m args below meth c s₁ B hml hv
  obtain ⟨rfl, hsz, hP, hK, hD0⟩ := hv
  have hx := B.exec
  have hb := B.bytes
  have hr := B.returns
  have hts := atoms_spec (ws := wsX7_own) B.pre
  have hown : s.vm.findClass RX7 = some m.cls := findClass_of_methodNamed B.named
  have hlocks := B.notSynchronized
  have hinX7 : ∀ w ∈ u_ws RX7 TX7 16, w ∈ wsX7_own := by decide +kernel
  have hf7 := hts (.fieldLink RX7 7 "PulseSignsModel" "sizes" "[I") (by decide +kernel)
  have hf16 := hts (.fieldLink RX7 16 "PulseSignsModel" "filterSize" "I") (by decide +kernel)
  have hf20 := hts (.fieldLink RX7 20 "PulseSignsModel" "weights" "[I") (by decide +kernel)
  have hf13 := hts (.fieldLink RX7 13 "PulseSignsModel" "turns" "[I") (by decide +kernel)
  subst hsz
  have hD := hD0.self (sz := s.heap.size)
  generalize hAe : va_A [(h, .inr (5, [.ref a0, .ref a1, .int (nI fn), .ref a3, .int (nI rn), .ref a5, .ref a6, .int (nI wn), .ref a8, .int (nI bs), .int re, .int ot, .ref a12, .long ab, .long be, .long hh])), (a0, .inl (cI, 6, .inl (fun i => nI (sn i)))), (a1, .inl (cI, 96, .inl tu)), (a3, .inl (cI, 24, .inl we)), (a5, .inl (cI, 4, .inl (fun i => nI (per i)))), (a6, .inl (cI, 4, .inl rea)), (a8, .inl (cI, 64, .inl rw)), (a12, .inl (cI, 16, .inl cp))] s.heap.size = A at hD ⊢
  have hA : ∀ q : Nat, s.heap.size ≤ q → A q := fun q h => by rw [← hAe]; exact Or.inr h
  have hS : va_S A s.heap s.heap [] := va_S.rf
  have hP : va_P D vwCl [(h, .inr (5, [.ref a0, .ref a1, .int (nI fn), .ref a3, .int (nI rn), .ref a5, .ref a6, .int (nI wn), .ref a8, .int (nI bs), .int re, .int ot, .ref a12, .long ab, .long be, .long hh])), (a0, .inl (cI, 6, .inl (fun i => nI (sn i)))), (a1, .inl (cI, 96, .inl tu)), (a3, .inl (cI, 24, .inl we)), (a5, .inl (cI, 4, .inl (fun i => nI (per i)))), (a6, .inl (cI, 4, .inl rea)), (a8, .inl (cI, 64, .inl rw)), (a12, .inl (cI, 16, .inl cp))] s.heap := hP
  have hl := lv_entry ([.ref h, .int xc]) (n := 4) (Nat.le_of_ble_eq_true rfl)
  rw [lg_entry_eq]
  generalize (lg_sl ([.ref h, .int xc]) ++ List.replicate (4 - (lg_sl ([.ref h, .int xc])).length) Slot.unset).toArray = ls at hl ⊢
  refine w_Q (fun Q hQ => ?_)
  have hl : lv_has ls 4 [(0, .ref h), (1, .int xc)] := hl
  rw [fX7_own] at hF
  refine lv_iload_n hx hb dX7_own_0 rfl (lv_at hl 1 rfl) ?_
  have hPc := hP.sub (ws' := []) [] rfl
  refine cs_i (va_runS (As := [.int xc]) (rest := []) ⟨hx, hb, hml, hown, hts⟩ (c_X7_isSign l D cI xc ) (va_cwS 1 hts gX7_own_X7_isSign rfl rfl rfl (by decide +kernel) ⟨(Nat.le_of_ble_eq_true rfl), (Nat.le_of_ble_eq_true rfl)⟩) (ro_pre hPc hK) rfl rfl hl.1 rfl (lv_room (Nat.le_of_ble_eq_true rfl)) dX7_own_1 ⟨Nat.zero_le _, Nat.zero_le _⟩) ?_
  refine lv_if_ne (tgt := 10) hx hb dX7_own_4 (by decide) (fun c4 => ?_) (fun c4 => ?_)
  · rw [if_neg c4] at hF
    obtain ⟨cn, hcn, rfl⟩ := sign_nat c4
    have h16 := hsn cn (by omega)
    have e_cn : (nI cn).toNatClampNeg = cn := nI_clamp (by omega)
    try simp only [e_cn] at hF
    refine lv_aload_n hx hb dX7_own_10 rfl (lv_at hl 0 rfl) ?_
    refine lv_aload_n hx hb dX7_own_11 rfl (lv_at hl 0 rfl) ?_
    refine va_get (D := D) (ci := 5) (v := .ref a0) (C := RX7) (T := TX7) (N := 16) hx hb hts hinX7 hown hK.1 hP 0 rfl rfl 0 (by decide) hf7 (fun _ h9 => h9) rfl dX7_own_12 ?_
    refine lv_iload_n hx hb dX7_own_15 rfl (lv_at hl 1 rfl) ?_
    refine w_ald hx hb hK hP 1 0 rfl rfl (cn) rfl (by omega) (by omega) dX7_own_16 ?_
    refine va_put (D := D) (ci := 5) (v := .int (nI (sn cn))) (ty := .int) (C := RX7) (T := TX7) (N := 16) hx hb hts hinX7 tyX7 tyX7_ok nmX7 hown hK.1 hP hD hS 0 rfl rfl 2 (by decide) hf16 (fun _ h9 => h9) rfl (by decide +kernel) rfl rfl (Nat.le_of_ble_eq_true rfl) dX7_own_17 (fun H locs hP hD hS => ?_)
    have hP : va_P D vwCl [(h, .inr (5, [.ref a0, .ref a1, .int (nI (sn cn)), .ref a3, .int (nI rn), .ref a5, .ref a6, .int (nI wn), .ref a8, .int (nI bs), .int re, .int ot, .ref a12, .long ab, .long be, .long hh])), (a0, .inl (cI, 6, .inl (fun i => nI (sn i)))), (a1, .inl (cI, 96, .inl tu)), (a3, .inl (cI, 24, .inl we)), (a5, .inl (cI, 4, .inl (fun i => nI (per i)))), (a6, .inl (cI, 4, .inl rea)), (a8, .inl (cI, 64, .inl rw)), (a12, .inl (cI, 16, .inl cp))] H := hP
    have hD : va_D A [(h, .inr (5, [.ref a0, .ref a1, .int (nI (sn cn)), .ref a3, .int (nI rn), .ref a5, .ref a6, .int (nI wn), .ref a8, .int (nI bs), .int re, .int ot, .ref a12, .long ab, .long be, .long hh])), (a0, .inl (cI, 6, .inl (fun i => nI (sn i)))), (a1, .inl (cI, 96, .inl tu)), (a3, .inl (cI, 24, .inl we)), (a5, .inl (cI, 4, .inl (fun i => nI (per i)))), (a6, .inl (cI, 4, .inl rea)), (a8, .inl (cI, 64, .inl rw)), (a12, .inl (cI, 16, .inl cp))] := hD
    refine lv_iconst (v := 0) hx hb dX7_own_20 (by decide) ?_
    refine lv_istore_n (lv' := [(2, .int 0), (0, .ref h), (1, .int (nI cn))]) hx hb dX7_own_21 rfl hl (by decide) rfl (fun ls hl => ?_)
    have lp22 : ∀ (r22 k22 : Nat) (we : Nat → Int32) (H : Heap) (locs : List Loc) (ls : Array Slot), r22 = 24 - k22 → k22 ≤ 24 + 1 → va_P D vwCl [(h, .inr (5, [.ref a0, .ref a1, .int (nI (sn cn)), .ref a3, .int (nI rn), .ref a5, .ref a6, .int (nI wn), .ref a8, .int (nI bs), .int re, .int ot, .ref a12, .long ab, .long be, .long hh])), (a0, .inl (cI, 6, .inl (fun i => nI (sn i)))), (a1, .inl (cI, 96, .inl tu)), (a3, .inl (cI, 24, .inl we)), (a5, .inl (cI, 4, .inl (fun i => nI (per i)))), (a6, .inl (cI, 4, .inl rea)), (a8, .inl (cI, 64, .inl rw)), (a12, .inl (cI, 16, .inl cp))] H → va_D A [(h, .inr (5, [.ref a0, .ref a1, .int (nI (sn cn)), .ref a3, .int (nI rn), .ref a5, .ref a6, .int (nI wn), .ref a8, .int (nI bs), .int re, .int ot, .ref a12, .long ab, .long be, .long hh])), (a0, .inl (cI, 6, .inl (fun i => nI (sn i)))), (a1, .inl (cI, 96, .inl tu)), (a3, .inl (cI, 24, .inl we)), (a5, .inl (cI, 4, .inl (fun i => nI (per i)))), (a6, .inl (cI, 4, .inl rea)), (a8, .inl (cI, 64, .inl rw)), (a12, .inl (cI, 16, .inl cp))] → va_S A s.heap H locs → lv_has ls 4 [(0, .ref h), (1, .int (nI cn)), (2, .int (nI k22))] → F_X7_own_22 sn tu cn r22 k22 we = T → W p l e (headSpec wsX7_own rmX7_own).room s m ([.ref h, .int (nI cn)] : List Value).toArray below meth c H locs 0 0 Q (F0 m 22 ls []) := by
      intro r22
      induction r22 with
      | zero =>
        intro k22 we H locs ls hi22_0 hi22_1 hP hD hS hl hF
        rw [F_X7_own_22] at hF
        refine lv_iload_n hx hb dX7_own_22 rfl (lv_at hl 2 rfl) ?_
        refine lv_bipush (v := 24) hx hb dX7_own_23 (by decide) ?_
        refine lv_icmp_ge (tgt := 89) hx hb dX7_own_25 (by decide) (fun c25 => ?_) (fun c25 => ?_)
        · skip
          refine lv_aload_n hx hb dX7_own_89 rfl (lv_at hl 0 rfl) ?_
          refine va_get (D := D) (ci := 5) (v := .int (nI (sn cn))) (C := RX7) (T := TX7) (N := 16) hx hb hts hinX7 hown hK.1 hP 0 rfl rfl 2 (by decide) hf16 (fun _ h9 => h9) rfl dX7_own_90 ?_
          subst hF
          subst hQ
          exact W.iret (v := nI (sn cn)) hx hb hr (fun u9 ht hW => ⟨⟨_, (), rfl, rfl, by rw [← ht] at hP; exact hP⟩, hS.F ht⟩) hS.2.2 dX7_own_93
        · exact False.elim (c25 (nI_le (a := 24) (b := k22) (by omega) (by omega)))
      | succ r22 ih22 =>
        intro k22 we H locs ls hi22_0 hi22_1 hP hD hS hl hF
        rw [F_X7_own_22] at hF
        refine lv_iload_n hx hb dX7_own_22 rfl (lv_at hl 2 rfl) ?_
        refine lv_bipush (v := 24) hx hb dX7_own_23 (by decide) ?_
        refine lv_icmp_ge (tgt := 89) hx hb dX7_own_25 (by decide) (fun c25 => ?_) (fun c25 => ?_)
        · exact False.elim (nI_ge (a := k22) (b := 24) (by omega) (by omega) c25)
        · skip
          refine lv_iload_n hx hb dX7_own_28 rfl (lv_at hl 2 rfl) ?_
          refine lv_aload_n hx hb dX7_own_29 rfl (lv_at hl 0 rfl) ?_
          refine va_get (D := D) (ci := 5) (v := .int (nI (sn cn))) (C := RX7) (T := TX7) (N := 16) hx hb hts hinX7 hown hK.1 hP 0 rfl rfl 2 (by decide) hf16 (fun _ h9 => h9) rfl dX7_own_30 ?_
          refine lv_icmp_ge (tgt := 57) hx hb dX7_own_33 (by decide) (fun c33 => ?_) (fun c33 => ?_)
          · rw [if_pos c33] at hF
            refine lv_iconst (v := 1) hx hb dX7_own_57 (by decide) ?_
            refine lv_istore_n (lv' := [(3, .int 1), (0, .ref h), (1, .int (nI cn)), (2, .int (nI k22))]) hx hb dX7_own_58 rfl hl (by decide) rfl (fun ls hl => ?_)
            refine lv_aload_n hx hb dX7_own_59 rfl (lv_at hl 1 rfl) ?_
            refine va_get (D := D) (ci := 5) (v := .ref a3) (C := RX7) (T := TX7) (N := 16) hx hb hts hinX7 hown hK.1 hP 0 rfl rfl 3 (by decide) hf20 (fun _ h9 => h9) rfl dX7_own_60 ?_
            refine lv_iload_n hx hb dX7_own_63 rfl (lv_at hl 3 rfl) ?_
            refine lv_iload_n hx hb dX7_own_64 rfl (lv_at hl 0 rfl) ?_
            refine lv_if_ne (tgt := 72) hx hb dX7_own_65 (by decide) (fun c65 => ?_) (fun c65 => ?_)
            · rw [if_neg c65] at hF
              refine lv_iload_n hx hb dX7_own_72 rfl (lv_at hl 0 rfl) ?_
              refine lv_iconst (v := 2) hx hb dX7_own_73 (by decide) ?_
              refine lv_icmp_ne (tgt := 81) hx hb dX7_own_74 (by decide) (fun c74 => ?_) (fun c74 => ?_)
              · rw [if_neg c74] at hF
                refine lv_iconst (v := 0) hx hb dX7_own_81 (by decide) ?_
                refine w_ast hx hb hK hP hD hS 3 0 rfl rfl (k22) rfl (by omega) (by omega) dX7_own_82 (fun H locs hP hD hS => ?_)
                have hP : va_P D vwCl [(h, .inr (5, [.ref a0, .ref a1, .int (nI (sn cn)), .ref a3, .int (nI rn), .ref a5, .ref a6, .int (nI wn), .ref a8, .int (nI bs), .int re, .int ot, .ref a12, .long ab, .long be, .long hh])), (a0, .inl (cI, 6, .inl (fun i => nI (sn i)))), (a1, .inl (cI, 96, .inl tu)), (a3, .inl (cI, 24, .inl (upd we k22 0))), (a5, .inl (cI, 4, .inl (fun i => nI (per i)))), (a6, .inl (cI, 4, .inl rea)), (a8, .inl (cI, 64, .inl rw)), (a12, .inl (cI, 16, .inl cp))] H := hP
                have hD : va_D A [(h, .inr (5, [.ref a0, .ref a1, .int (nI (sn cn)), .ref a3, .int (nI rn), .ref a5, .ref a6, .int (nI wn), .ref a8, .int (nI bs), .int re, .int ot, .ref a12, .long ab, .long be, .long hh])), (a0, .inl (cI, 6, .inl (fun i => nI (sn i)))), (a1, .inl (cI, 96, .inl tu)), (a3, .inl (cI, 24, .inl (upd we k22 0))), (a5, .inl (cI, 4, .inl (fun i => nI (per i)))), (a6, .inl (cI, 4, .inl rea)), (a8, .inl (cI, 64, .inl rw)), (a12, .inl (cI, 16, .inl cp))] := hD
                refine lv_iinc (v := nI (k22 + 1)) (lv' := [(2, .int (nI (k22 + 1))), (3, .int 1), (0, .ref h), (1, .int (nI cn))]) hx hb dX7_own_83 hl (k := 3) rfl (nI_1 _) (by decide) rfl (fun ls hl => ?_)
                refine lv_goto (tgt := 22) hx hb dX7_own_86 (by decide) ?_
                exact ih22 (k22 + 1) (upd we k22 0) H locs ls (by omega) (by omega) hP hD hS (lv_sub hl [2, 3, 0] rfl) hF
              · rw [if_pos c74] at hF
                refine lv_iconst (v := (-1)) hx hb dX7_own_77 (by decide) ?_
                refine lv_goto (tgt := 82) hx hb dX7_own_78 (by decide) ?_
                refine w_ast hx hb hK hP hD hS 3 0 rfl rfl (k22) rfl (by omega) (by omega) dX7_own_82 (fun H locs hP hD hS => ?_)
                have hP : va_P D vwCl [(h, .inr (5, [.ref a0, .ref a1, .int (nI (sn cn)), .ref a3, .int (nI rn), .ref a5, .ref a6, .int (nI wn), .ref a8, .int (nI bs), .int re, .int ot, .ref a12, .long ab, .long be, .long hh])), (a0, .inl (cI, 6, .inl (fun i => nI (sn i)))), (a1, .inl (cI, 96, .inl tu)), (a3, .inl (cI, 24, .inl (upd we k22 (-1)))), (a5, .inl (cI, 4, .inl (fun i => nI (per i)))), (a6, .inl (cI, 4, .inl rea)), (a8, .inl (cI, 64, .inl rw)), (a12, .inl (cI, 16, .inl cp))] H := hP
                have hD : va_D A [(h, .inr (5, [.ref a0, .ref a1, .int (nI (sn cn)), .ref a3, .int (nI rn), .ref a5, .ref a6, .int (nI wn), .ref a8, .int (nI bs), .int re, .int ot, .ref a12, .long ab, .long be, .long hh])), (a0, .inl (cI, 6, .inl (fun i => nI (sn i)))), (a1, .inl (cI, 96, .inl tu)), (a3, .inl (cI, 24, .inl (upd we k22 (-1)))), (a5, .inl (cI, 4, .inl (fun i => nI (per i)))), (a6, .inl (cI, 4, .inl rea)), (a8, .inl (cI, 64, .inl rw)), (a12, .inl (cI, 16, .inl cp))] := hD
                refine lv_iinc (v := nI (k22 + 1)) (lv' := [(2, .int (nI (k22 + 1))), (3, .int 1), (0, .ref h), (1, .int (nI cn))]) hx hb dX7_own_83 hl (k := 3) rfl (nI_1 _) (by decide) rfl (fun ls hl => ?_)
                refine lv_goto (tgt := 22) hx hb dX7_own_86 (by decide) ?_
                exact ih22 (k22 + 1) (upd we k22 (-1)) H locs ls (by omega) (by omega) hP hD hS (lv_sub hl [2, 3, 0] rfl) hF
            · rw [if_pos c65] at hF
              refine lv_iconst (v := 1) hx hb dX7_own_68 (by decide) ?_
              refine lv_goto (tgt := 82) hx hb dX7_own_69 (by decide) ?_
              refine w_ast hx hb hK hP hD hS 3 0 rfl rfl (k22) rfl (by omega) (by omega) dX7_own_82 (fun H locs hP hD hS => ?_)
              have hP : va_P D vwCl [(h, .inr (5, [.ref a0, .ref a1, .int (nI (sn cn)), .ref a3, .int (nI rn), .ref a5, .ref a6, .int (nI wn), .ref a8, .int (nI bs), .int re, .int ot, .ref a12, .long ab, .long be, .long hh])), (a0, .inl (cI, 6, .inl (fun i => nI (sn i)))), (a1, .inl (cI, 96, .inl tu)), (a3, .inl (cI, 24, .inl (upd we k22 1))), (a5, .inl (cI, 4, .inl (fun i => nI (per i)))), (a6, .inl (cI, 4, .inl rea)), (a8, .inl (cI, 64, .inl rw)), (a12, .inl (cI, 16, .inl cp))] H := hP
              have hD : va_D A [(h, .inr (5, [.ref a0, .ref a1, .int (nI (sn cn)), .ref a3, .int (nI rn), .ref a5, .ref a6, .int (nI wn), .ref a8, .int (nI bs), .int re, .int ot, .ref a12, .long ab, .long be, .long hh])), (a0, .inl (cI, 6, .inl (fun i => nI (sn i)))), (a1, .inl (cI, 96, .inl tu)), (a3, .inl (cI, 24, .inl (upd we k22 1))), (a5, .inl (cI, 4, .inl (fun i => nI (per i)))), (a6, .inl (cI, 4, .inl rea)), (a8, .inl (cI, 64, .inl rw)), (a12, .inl (cI, 16, .inl cp))] := hD
              refine lv_iinc (v := nI (k22 + 1)) (lv' := [(2, .int (nI (k22 + 1))), (3, .int 1), (0, .ref h), (1, .int (nI cn))]) hx hb dX7_own_83 hl (k := 3) rfl (nI_1 _) (by decide) rfl (fun ls hl => ?_)
              refine lv_goto (tgt := 22) hx hb dX7_own_86 (by decide) ?_
              exact ih22 (k22 + 1) (upd we k22 1) H locs ls (by omega) (by omega) hP hD hS (lv_sub hl [2, 3, 0] rfl) hF
          · rw [if_neg c33] at hF
            refine lv_aload_n hx hb dX7_own_36 rfl (lv_at hl 0 rfl) ?_
            refine va_get (D := D) (ci := 5) (v := .ref a1) (C := RX7) (T := TX7) (N := 16) hx hb hts hinX7 hown hK.1 hP 0 rfl rfl 1 (by decide) hf13 (fun _ h9 => h9) rfl dX7_own_37 ?_
            refine lv_bipush (v := 16) hx hb dX7_own_40 (by decide) ?_
            refine lv_iload_n hx hb dX7_own_42 rfl (lv_at hl 1 rfl) ?_
            refine lv_imul hx hb dX7_own_43 ?_
            refine lv_aload_n hx hb dX7_own_44 rfl (lv_at hl 0 rfl) ?_
            refine va_get (D := D) (ci := 5) (v := .int (nI (sn cn))) (C := RX7) (T := TX7) (N := 16) hx hb hts hinX7 hown hK.1 hP 0 rfl rfl 2 (by decide) hf16 (fun _ h9 => h9) rfl dX7_own_45 ?_
            refine lv_iadd hx hb dX7_own_48 ?_
            refine lv_iconst (v := 1) hx hb dX7_own_49 (by decide) ?_
            refine lv_isub hx hb dX7_own_50 ?_
            refine lv_iload_n hx hb dX7_own_51 rfl (lv_at hl 2 rfl) ?_
            refine lv_isub hx hb dX7_own_52 ?_
            have q33 : k22 < sn cn := Nat.lt_of_not_le (fun h => c33 (nI_le h (by omega)))
            refine w_ald hx hb hK hP 2 0 rfl rfl (16 * cn + sn cn - 1 - k22) (own_ix (by omega)) (by omega) (by omega) dX7_own_53 ?_
            refine lv_goto (tgt := 58) hx hb dX7_own_54 (by decide) ?_
            refine lv_istore_n (lv' := [(3, .int (tu (16 * cn + sn cn - 1 - k22))), (0, .ref h), (1, .int (nI cn)), (2, .int (nI k22))]) hx hb dX7_own_58 rfl hl (by decide) rfl (fun ls hl => ?_)
            refine lv_aload_n hx hb dX7_own_59 rfl (lv_at hl 1 rfl) ?_
            refine va_get (D := D) (ci := 5) (v := .ref a3) (C := RX7) (T := TX7) (N := 16) hx hb hts hinX7 hown hK.1 hP 0 rfl rfl 3 (by decide) hf20 (fun _ h9 => h9) rfl dX7_own_60 ?_
            refine lv_iload_n hx hb dX7_own_63 rfl (lv_at hl 3 rfl) ?_
            refine lv_iload_n hx hb dX7_own_64 rfl (lv_at hl 0 rfl) ?_
            refine lv_if_ne (tgt := 72) hx hb dX7_own_65 (by decide) (fun c65 => ?_) (fun c65 => ?_)
            · rw [if_neg c65] at hF
              refine lv_iload_n hx hb dX7_own_72 rfl (lv_at hl 0 rfl) ?_
              refine lv_iconst (v := 2) hx hb dX7_own_73 (by decide) ?_
              refine lv_icmp_ne (tgt := 81) hx hb dX7_own_74 (by decide) (fun c74 => ?_) (fun c74 => ?_)
              · rw [if_neg c74] at hF
                refine lv_iconst (v := 0) hx hb dX7_own_81 (by decide) ?_
                refine w_ast hx hb hK hP hD hS 3 0 rfl rfl (k22) rfl (by omega) (by omega) dX7_own_82 (fun H locs hP hD hS => ?_)
                have hP : va_P D vwCl [(h, .inr (5, [.ref a0, .ref a1, .int (nI (sn cn)), .ref a3, .int (nI rn), .ref a5, .ref a6, .int (nI wn), .ref a8, .int (nI bs), .int re, .int ot, .ref a12, .long ab, .long be, .long hh])), (a0, .inl (cI, 6, .inl (fun i => nI (sn i)))), (a1, .inl (cI, 96, .inl tu)), (a3, .inl (cI, 24, .inl (upd we k22 0))), (a5, .inl (cI, 4, .inl (fun i => nI (per i)))), (a6, .inl (cI, 4, .inl rea)), (a8, .inl (cI, 64, .inl rw)), (a12, .inl (cI, 16, .inl cp))] H := hP
                have hD : va_D A [(h, .inr (5, [.ref a0, .ref a1, .int (nI (sn cn)), .ref a3, .int (nI rn), .ref a5, .ref a6, .int (nI wn), .ref a8, .int (nI bs), .int re, .int ot, .ref a12, .long ab, .long be, .long hh])), (a0, .inl (cI, 6, .inl (fun i => nI (sn i)))), (a1, .inl (cI, 96, .inl tu)), (a3, .inl (cI, 24, .inl (upd we k22 0))), (a5, .inl (cI, 4, .inl (fun i => nI (per i)))), (a6, .inl (cI, 4, .inl rea)), (a8, .inl (cI, 64, .inl rw)), (a12, .inl (cI, 16, .inl cp))] := hD
                refine lv_iinc (v := nI (k22 + 1)) (lv' := [(2, .int (nI (k22 + 1))), (3, .int (tu (16 * cn + sn cn - 1 - k22))), (0, .ref h), (1, .int (nI cn))]) hx hb dX7_own_83 hl (k := 3) rfl (nI_1 _) (by decide) rfl (fun ls hl => ?_)
                refine lv_goto (tgt := 22) hx hb dX7_own_86 (by decide) ?_
                exact ih22 (k22 + 1) (upd we k22 0) H locs ls (by omega) (by omega) hP hD hS (lv_sub hl [2, 3, 0] rfl) hF
              · rw [if_pos c74] at hF
                refine lv_iconst (v := (-1)) hx hb dX7_own_77 (by decide) ?_
                refine lv_goto (tgt := 82) hx hb dX7_own_78 (by decide) ?_
                refine w_ast hx hb hK hP hD hS 3 0 rfl rfl (k22) rfl (by omega) (by omega) dX7_own_82 (fun H locs hP hD hS => ?_)
                have hP : va_P D vwCl [(h, .inr (5, [.ref a0, .ref a1, .int (nI (sn cn)), .ref a3, .int (nI rn), .ref a5, .ref a6, .int (nI wn), .ref a8, .int (nI bs), .int re, .int ot, .ref a12, .long ab, .long be, .long hh])), (a0, .inl (cI, 6, .inl (fun i => nI (sn i)))), (a1, .inl (cI, 96, .inl tu)), (a3, .inl (cI, 24, .inl (upd we k22 (-1)))), (a5, .inl (cI, 4, .inl (fun i => nI (per i)))), (a6, .inl (cI, 4, .inl rea)), (a8, .inl (cI, 64, .inl rw)), (a12, .inl (cI, 16, .inl cp))] H := hP
                have hD : va_D A [(h, .inr (5, [.ref a0, .ref a1, .int (nI (sn cn)), .ref a3, .int (nI rn), .ref a5, .ref a6, .int (nI wn), .ref a8, .int (nI bs), .int re, .int ot, .ref a12, .long ab, .long be, .long hh])), (a0, .inl (cI, 6, .inl (fun i => nI (sn i)))), (a1, .inl (cI, 96, .inl tu)), (a3, .inl (cI, 24, .inl (upd we k22 (-1)))), (a5, .inl (cI, 4, .inl (fun i => nI (per i)))), (a6, .inl (cI, 4, .inl rea)), (a8, .inl (cI, 64, .inl rw)), (a12, .inl (cI, 16, .inl cp))] := hD
                refine lv_iinc (v := nI (k22 + 1)) (lv' := [(2, .int (nI (k22 + 1))), (3, .int (tu (16 * cn + sn cn - 1 - k22))), (0, .ref h), (1, .int (nI cn))]) hx hb dX7_own_83 hl (k := 3) rfl (nI_1 _) (by decide) rfl (fun ls hl => ?_)
                refine lv_goto (tgt := 22) hx hb dX7_own_86 (by decide) ?_
                exact ih22 (k22 + 1) (upd we k22 (-1)) H locs ls (by omega) (by omega) hP hD hS (lv_sub hl [2, 3, 0] rfl) hF
            · rw [if_pos c65] at hF
              refine lv_iconst (v := 1) hx hb dX7_own_68 (by decide) ?_
              refine lv_goto (tgt := 82) hx hb dX7_own_69 (by decide) ?_
              refine w_ast hx hb hK hP hD hS 3 0 rfl rfl (k22) rfl (by omega) (by omega) dX7_own_82 (fun H locs hP hD hS => ?_)
              have hP : va_P D vwCl [(h, .inr (5, [.ref a0, .ref a1, .int (nI (sn cn)), .ref a3, .int (nI rn), .ref a5, .ref a6, .int (nI wn), .ref a8, .int (nI bs), .int re, .int ot, .ref a12, .long ab, .long be, .long hh])), (a0, .inl (cI, 6, .inl (fun i => nI (sn i)))), (a1, .inl (cI, 96, .inl tu)), (a3, .inl (cI, 24, .inl (upd we k22 1))), (a5, .inl (cI, 4, .inl (fun i => nI (per i)))), (a6, .inl (cI, 4, .inl rea)), (a8, .inl (cI, 64, .inl rw)), (a12, .inl (cI, 16, .inl cp))] H := hP
              have hD : va_D A [(h, .inr (5, [.ref a0, .ref a1, .int (nI (sn cn)), .ref a3, .int (nI rn), .ref a5, .ref a6, .int (nI wn), .ref a8, .int (nI bs), .int re, .int ot, .ref a12, .long ab, .long be, .long hh])), (a0, .inl (cI, 6, .inl (fun i => nI (sn i)))), (a1, .inl (cI, 96, .inl tu)), (a3, .inl (cI, 24, .inl (upd we k22 1))), (a5, .inl (cI, 4, .inl (fun i => nI (per i)))), (a6, .inl (cI, 4, .inl rea)), (a8, .inl (cI, 64, .inl rw)), (a12, .inl (cI, 16, .inl cp))] := hD
              refine lv_iinc (v := nI (k22 + 1)) (lv' := [(2, .int (nI (k22 + 1))), (3, .int (tu (16 * cn + sn cn - 1 - k22))), (0, .ref h), (1, .int (nI cn))]) hx hb dX7_own_83 hl (k := 3) rfl (nI_1 _) (by decide) rfl (fun ls hl => ?_)
              refine lv_goto (tgt := 22) hx hb dX7_own_86 (by decide) ?_
              exact ih22 (k22 + 1) (upd we k22 1) H locs ls (by omega) (by omega) hP hD hS (lv_sub hl [2, 3, 0] rfl) hF
    exact lp22 (24 - 0) 0 we H _ ls rfl (by omega) hP hD hS (lv_sub hl [1, 2, 0] rfl) hF
  · rw [if_pos c4] at hF
    refine lv_bipush (v := (-101)) hx hb dX7_own_7 (by decide) ?_
    subst hF
    subst hQ
    exact W.iret (v := (-101)) hx hb hr (fun u9 ht hW => ⟨⟨_, (), rfl, rfl, by rw [← ht] at hP; exact hP⟩, hS.F ht⟩) hS.2.2 dX7_own_9
def F_X7_answers_12 (sn : Nat → Nat) (tu : Nat → Int32) (we : Nat → Int32) (cc : Nat) (kk : Int32) : Nat → Nat → Int32 → Int32 → (Int32 × Int32 × Int32)
  | 0, k12, re, ot => ((re * re) + (ot * ot), re, ot)
  | r12 + 1, k12, re, ot => (if (fX7_in (kk - (nI k12)) 0 ((nI (sn cc)) - 1)) = 0 then F_X7_answers_12 sn tu we cc kk r12 (k12 + 1) re ot else F_X7_answers_12 sn tu we cc kk r12 (k12 + 1) ((fX7_add re ot (tu (((16 * (nI cc)) + kk) - (nI k12)).toNatClampNeg) (we k12)).1) ((fX7_add re ot (tu (((16 * (nI cc)) + kk) - (nI k12)).toNatClampNeg) (we k12)).2))
def fX7_answers (sn : Nat → Nat) (tu : Nat → Int32) (fn : Nat) (we : Nat → Int32) (cc : Nat) (kk : Int32) : Int32 × Int32 × Int32 := F_X7_answers_12 sn tu we cc kk (fn - 0) 0 0 0
abbrev rmX7_answers : Room := { frames := 1, cells := 0, slots := 0, locals := 22 }
set_option maxHeartbeats 4000000 in
set_option maxRecDepth 100000 in
theorem c_X7_answers (l : Launch) (D : va_G) (cI : ClassId) (sz : Nat) (h : Nat) (a0 : Nat) (a1 : Nat) (a3 : Nat) (a5 : Nat) (a6 : Nat) (a8 : Nat) (a12 : Nat) (sn : Nat → Nat) (tu : Nat → Int32) (fn : Nat) (we : Nat → Int32) (rn : Nat) (per : Nat → Nat) (rea : Nat → Int32) (wn : Nat) (rw : Nat → Int32) (bs : Nat) (re : Int32) (ot : Int32) (cp : Nat → Int32) (ab : Int64) (be : Int64) (hh : Int64) (cc : Nat) (kk : Int32) (hsn : ∀ c, c < 6 → 1 ≤ sn c ∧ sn c ≤ 16) (hc6 : cc < 6) (hfn : 1 ≤ fn ∧ fn ≤ 24) : Met l yX7_answers wsX7_answers rmX7_answers (va_Pc [.ref h, .int (nI cc), .int kk] (wrP D [(cI, .int)] [(h, .inr (5, [.ref a0, .ref a1, .int (nI fn), .ref a3, .int (nI rn), .ref a5, .ref a6, .int (nI wn), .ref a8, .int (nI bs), .int re, .int ot, .ref a12, .long ab, .long be, .long hh])), (a0, .inl (cI, 6, .inl (fun i => nI (sn i)))), (a1, .inl (cI, 96, .inl tu)), (a3, .inl (cI, 24, .inl we)), (a5, .inl (cI, 4, .inl (fun i => nI (per i)))), (a6, .inl (cI, 4, .inl rea)), (a8, .inl (cI, 64, .inl rw)), (a12, .inl (cI, 16, .inl cp))] sz)) (va_Qi (fun r9 (_ : Unit) => r9 = (fX7_answers sn tu fn we cc kk).1) (fun _ u9 => va_P D vwCl [(h, .inr (5, [.ref a0, .ref a1, .int (nI fn), .ref a3, .int (nI rn), .ref a5, .ref a6, .int (nI wn), .ref a8, .int (nI bs), .int ((fX7_answers sn tu fn we cc kk).2.1), .int ((fX7_answers sn tu fn we cc kk).2.2), .ref a12, .long ab, .long be, .long hh])), (a0, .inl (cI, 6, .inl (fun i => nI (sn i)))), (a1, .inl (cI, 96, .inl tu)), (a3, .inl (cI, 24, .inl we)), (a5, .inl (cI, 4, .inl (fun i => nI (per i)))), (a6, .inl (cI, 4, .inl rea)), (a8, .inl (cI, 64, .inl rw)), (a12, .inl (cI, 16, .inl cp))] u9.heap) (va_A [(h, .inr (5, [.ref a0, .ref a1, .int (nI fn), .ref a3, .int (nI rn), .ref a5, .ref a6, .int (nI wn), .ref a8, .int (nI bs), .int re, .int ot, .ref a12, .long ab, .long be, .long hh])), (a0, .inl (cI, 6, .inl (fun i => nI (sn i)))), (a1, .inl (cI, 96, .inl tu)), (a3, .inl (cI, 24, .inl we)), (a5, .inl (cI, 4, .inl (fun i => nI (per i)))), (a6, .inl (cI, 4, .inl rea)), (a8, .inl (cI, 64, .inl rw)), (a12, .inl (cI, 16, .inl cp))] sz)) 0 0 (va_A [(h, .inr (5, [.ref a0, .ref a1, .int (nI fn), .ref a3, .int (nI rn), .ref a5, .ref a6, .int (nI wn), .ref a8, .int (nI bs), .int re, .int ot, .ref a12, .long ab, .long be, .long hh])), (a0, .inl (cI, 6, .inl (fun i => nI (sn i)))), (a1, .inl (cI, 96, .inl tu)), (a3, .inl (cI, 24, .inl we)), (a5, .inl (cI, 4, .inl (fun i => nI (per i)))), (a6, .inl (cI, 4, .inl rea)), (a8, .inl (cI, 64, .inl rw)), (a12, .inl (cI, 16, .inl cp))] sz) := by
  generalize hF : fX7_answers sn tu fn we cc kk = T
  refine Met.ofW (cc := cX7_answers) (maxL := 4) (ret := (some .int)) (by decide) rfl ?_
  intro p e s m args below meth c s₁ B hml hv
  obtain ⟨rfl, hsz, hP, hK, hD0⟩ := hv
  have hx := B.exec
  have hb := B.bytes
  have hr := B.returns
  have hts := atoms_spec (ws := wsX7_answers) B.pre
  have hown : s.vm.findClass RX7 = some m.cls := findClass_of_methodNamed B.named
  have hlocks := B.notSynchronized
  have hinX7 : ∀ w ∈ u_ws RX7 TX7 16, w ∈ wsX7_answers := by decide +kernel
  have hf46 := hts (.fieldLink RX7 46 "PulseSignsModel" "real" "I") (by decide +kernel)
  have hf49 := hts (.fieldLink RX7 49 "PulseSignsModel" "other" "I") (by decide +kernel)
  have hf16 := hts (.fieldLink RX7 16 "PulseSignsModel" "filterSize" "I") (by decide +kernel)
  have hf7 := hts (.fieldLink RX7 7 "PulseSignsModel" "sizes" "[I") (by decide +kernel)
  have hf13 := hts (.fieldLink RX7 13 "PulseSignsModel" "turns" "[I") (by decide +kernel)
  have hf20 := hts (.fieldLink RX7 20 "PulseSignsModel" "weights" "[I") (by decide +kernel)
  subst hsz
  have hD := hD0.self (sz := s.heap.size)
  generalize hAe : va_A [(h, .inr (5, [.ref a0, .ref a1, .int (nI fn), .ref a3, .int (nI rn), .ref a5, .ref a6, .int (nI wn), .ref a8, .int (nI bs), .int re, .int ot, .ref a12, .long ab, .long be, .long hh])), (a0, .inl (cI, 6, .inl (fun i => nI (sn i)))), (a1, .inl (cI, 96, .inl tu)), (a3, .inl (cI, 24, .inl we)), (a5, .inl (cI, 4, .inl (fun i => nI (per i)))), (a6, .inl (cI, 4, .inl rea)), (a8, .inl (cI, 64, .inl rw)), (a12, .inl (cI, 16, .inl cp))] s.heap.size = A at hD ⊢
  have hA : ∀ q : Nat, s.heap.size ≤ q → A q := fun q h => by rw [← hAe]; exact Or.inr h
  have hS : va_S A s.heap s.heap [] := va_S.rf
  have hP : va_P D vwCl [(h, .inr (5, [.ref a0, .ref a1, .int (nI fn), .ref a3, .int (nI rn), .ref a5, .ref a6, .int (nI wn), .ref a8, .int (nI bs), .int re, .int ot, .ref a12, .long ab, .long be, .long hh])), (a0, .inl (cI, 6, .inl (fun i => nI (sn i)))), (a1, .inl (cI, 96, .inl tu)), (a3, .inl (cI, 24, .inl we)), (a5, .inl (cI, 4, .inl (fun i => nI (per i)))), (a6, .inl (cI, 4, .inl rea)), (a8, .inl (cI, 64, .inl rw)), (a12, .inl (cI, 16, .inl cp))] s.heap := hP
  have hl := lv_entry ([.ref h, .int (nI cc), .int kk]) (n := 4) (Nat.le_of_ble_eq_true rfl)
  rw [lg_entry_eq]
  generalize (lg_sl ([.ref h, .int (nI cc), .int kk]) ++ List.replicate (4 - (lg_sl ([.ref h, .int (nI cc), .int kk])).length) Slot.unset).toArray = ls at hl ⊢
  refine w_Q (fun Q hQ => ?_)
  have hc16 := hsn cc hc6
  have hl : lv_has ls 4 [(0, .ref h), (1, .int (nI cc)), (2, .int kk)] := hl
  rw [fX7_answers] at hF
  refine lv_aload_n hx hb dX7_answers_0 rfl (lv_at hl 0 rfl) ?_
  refine lv_iconst (v := 0) hx hb dX7_answers_1 (by decide) ?_
  refine va_put (D := D) (ci := 5) (v := .int 0) (ty := .int) (C := RX7) (T := TX7) (N := 16) hx hb hts hinX7 tyX7 tyX7_ok nmX7 hown hK.1 hP hD hS 0 rfl rfl 10 (by decide) hf46 (fun _ h9 => h9) rfl (by decide +kernel) rfl rfl (Nat.le_of_ble_eq_true rfl) dX7_answers_2 (fun H locs hP hD hS => ?_)
  have hP : va_P D vwCl [(h, .inr (5, [.ref a0, .ref a1, .int (nI fn), .ref a3, .int (nI rn), .ref a5, .ref a6, .int (nI wn), .ref a8, .int (nI bs), .int 0, .int ot, .ref a12, .long ab, .long be, .long hh])), (a0, .inl (cI, 6, .inl (fun i => nI (sn i)))), (a1, .inl (cI, 96, .inl tu)), (a3, .inl (cI, 24, .inl we)), (a5, .inl (cI, 4, .inl (fun i => nI (per i)))), (a6, .inl (cI, 4, .inl rea)), (a8, .inl (cI, 64, .inl rw)), (a12, .inl (cI, 16, .inl cp))] H := hP
  have hD : va_D A [(h, .inr (5, [.ref a0, .ref a1, .int (nI fn), .ref a3, .int (nI rn), .ref a5, .ref a6, .int (nI wn), .ref a8, .int (nI bs), .int 0, .int ot, .ref a12, .long ab, .long be, .long hh])), (a0, .inl (cI, 6, .inl (fun i => nI (sn i)))), (a1, .inl (cI, 96, .inl tu)), (a3, .inl (cI, 24, .inl we)), (a5, .inl (cI, 4, .inl (fun i => nI (per i)))), (a6, .inl (cI, 4, .inl rea)), (a8, .inl (cI, 64, .inl rw)), (a12, .inl (cI, 16, .inl cp))] := hD
  refine lv_aload_n hx hb dX7_answers_5 rfl (lv_at hl 0 rfl) ?_
  refine lv_iconst (v := 0) hx hb dX7_answers_6 (by decide) ?_
  refine va_put (D := D) (ci := 5) (v := .int 0) (ty := .int) (C := RX7) (T := TX7) (N := 16) hx hb hts hinX7 tyX7 tyX7_ok nmX7 hown hK.1 hP hD hS 0 rfl rfl 11 (by decide) hf49 (fun _ h9 => h9) rfl (by decide +kernel) rfl rfl (Nat.le_of_ble_eq_true rfl) dX7_answers_7 (fun H locs hP hD hS => ?_)
  have hP : va_P D vwCl [(h, .inr (5, [.ref a0, .ref a1, .int (nI fn), .ref a3, .int (nI rn), .ref a5, .ref a6, .int (nI wn), .ref a8, .int (nI bs), .int 0, .int 0, .ref a12, .long ab, .long be, .long hh])), (a0, .inl (cI, 6, .inl (fun i => nI (sn i)))), (a1, .inl (cI, 96, .inl tu)), (a3, .inl (cI, 24, .inl we)), (a5, .inl (cI, 4, .inl (fun i => nI (per i)))), (a6, .inl (cI, 4, .inl rea)), (a8, .inl (cI, 64, .inl rw)), (a12, .inl (cI, 16, .inl cp))] H := hP
  have hD : va_D A [(h, .inr (5, [.ref a0, .ref a1, .int (nI fn), .ref a3, .int (nI rn), .ref a5, .ref a6, .int (nI wn), .ref a8, .int (nI bs), .int 0, .int 0, .ref a12, .long ab, .long be, .long hh])), (a0, .inl (cI, 6, .inl (fun i => nI (sn i)))), (a1, .inl (cI, 96, .inl tu)), (a3, .inl (cI, 24, .inl we)), (a5, .inl (cI, 4, .inl (fun i => nI (per i)))), (a6, .inl (cI, 4, .inl rea)), (a8, .inl (cI, 64, .inl rw)), (a12, .inl (cI, 16, .inl cp))] := hD
  refine lv_iconst (v := 0) hx hb dX7_answers_10 (by decide) ?_
  refine lv_istore_n (lv' := [(3, .int 0), (0, .ref h), (1, .int (nI cc)), (2, .int kk)]) hx hb dX7_answers_11 rfl hl (by decide) rfl (fun ls hl => ?_)
  have lp12 : ∀ (r12 k12 : Nat) (re : Int32) (ot : Int32) (H : Heap) (locs : List Loc) (ls : Array Slot), r12 = fn - k12 → k12 ≤ fn + 1 → va_P D vwCl [(h, .inr (5, [.ref a0, .ref a1, .int (nI fn), .ref a3, .int (nI rn), .ref a5, .ref a6, .int (nI wn), .ref a8, .int (nI bs), .int re, .int ot, .ref a12, .long ab, .long be, .long hh])), (a0, .inl (cI, 6, .inl (fun i => nI (sn i)))), (a1, .inl (cI, 96, .inl tu)), (a3, .inl (cI, 24, .inl we)), (a5, .inl (cI, 4, .inl (fun i => nI (per i)))), (a6, .inl (cI, 4, .inl rea)), (a8, .inl (cI, 64, .inl rw)), (a12, .inl (cI, 16, .inl cp))] H → va_D A [(h, .inr (5, [.ref a0, .ref a1, .int (nI fn), .ref a3, .int (nI rn), .ref a5, .ref a6, .int (nI wn), .ref a8, .int (nI bs), .int re, .int ot, .ref a12, .long ab, .long be, .long hh])), (a0, .inl (cI, 6, .inl (fun i => nI (sn i)))), (a1, .inl (cI, 96, .inl tu)), (a3, .inl (cI, 24, .inl we)), (a5, .inl (cI, 4, .inl (fun i => nI (per i)))), (a6, .inl (cI, 4, .inl rea)), (a8, .inl (cI, 64, .inl rw)), (a12, .inl (cI, 16, .inl cp))] → va_S A s.heap H locs → lv_has ls 4 [(0, .ref h), (1, .int (nI cc)), (2, .int kk), (3, .int (nI k12))] → F_X7_answers_12 sn tu we cc kk r12 k12 re ot = T → W p l e (headSpec wsX7_answers rmX7_answers).room s m ([.ref h, .int (nI cc), .int kk] : List Value).toArray below meth c H locs 0 0 Q (F0 m 12 ls []) := by
    intro r12
    induction r12 with
    | zero =>
      intro k12 re ot H locs ls hi12_0 hi12_1 hP hD hS hl hF
      rw [F_X7_answers_12] at hF
      refine lv_iload_n hx hb dX7_answers_12 rfl (lv_at hl 3 rfl) ?_
      refine lv_aload_n hx hb dX7_answers_13 rfl (lv_at hl 0 rfl) ?_
      refine va_get (D := D) (ci := 5) (v := .int (nI fn)) (C := RX7) (T := TX7) (N := 16) hx hb hts hinX7 hown hK.1 hP 0 rfl rfl 2 (by decide) hf16 (fun _ h9 => h9) rfl dX7_answers_14 ?_
      refine lv_icmp_ge (tgt := 67) hx hb dX7_answers_17 (by decide) (fun c17 => ?_) (fun c17 => ?_)
      · skip
        refine lv_aload_n hx hb dX7_answers_67 rfl (lv_at hl 0 rfl) ?_
        refine va_get (D := D) (ci := 5) (v := .int re) (C := RX7) (T := TX7) (N := 16) hx hb hts hinX7 hown hK.1 hP 0 rfl rfl 10 (by decide) hf46 (fun _ h9 => h9) rfl dX7_answers_68 ?_
        refine lv_aload_n hx hb dX7_answers_71 rfl (lv_at hl 0 rfl) ?_
        refine va_get (D := D) (ci := 5) (v := .int re) (C := RX7) (T := TX7) (N := 16) hx hb hts hinX7 hown hK.1 hP 0 rfl rfl 10 (by decide) hf46 (fun _ h9 => h9) rfl dX7_answers_72 ?_
        refine lv_imul hx hb dX7_answers_75 ?_
        refine lv_aload_n hx hb dX7_answers_76 rfl (lv_at hl 0 rfl) ?_
        refine va_get (D := D) (ci := 5) (v := .int ot) (C := RX7) (T := TX7) (N := 16) hx hb hts hinX7 hown hK.1 hP 0 rfl rfl 11 (by decide) hf49 (fun _ h9 => h9) rfl dX7_answers_77 ?_
        refine lv_aload_n hx hb dX7_answers_80 rfl (lv_at hl 0 rfl) ?_
        refine va_get (D := D) (ci := 5) (v := .int ot) (C := RX7) (T := TX7) (N := 16) hx hb hts hinX7 hown hK.1 hP 0 rfl rfl 11 (by decide) hf49 (fun _ h9 => h9) rfl dX7_answers_81 ?_
        refine lv_imul hx hb dX7_answers_84 ?_
        refine lv_iadd hx hb dX7_answers_85 ?_
        subst hF
        subst hQ
        exact W.iret (v := (re * re) + (ot * ot)) hx hb hr (fun u9 ht hW => ⟨⟨_, (), rfl, rfl, by rw [← ht] at hP; exact hP⟩, hS.F ht⟩) hS.2.2 dX7_answers_86
      · exact False.elim (c17 (nI_le (a := fn) (b := k12) (by omega) (by omega)))
    | succ r12 ih12 =>
      intro k12 re ot H locs ls hi12_0 hi12_1 hP hD hS hl hF
      rw [F_X7_answers_12] at hF
      refine lv_iload_n hx hb dX7_answers_12 rfl (lv_at hl 3 rfl) ?_
      refine lv_aload_n hx hb dX7_answers_13 rfl (lv_at hl 0 rfl) ?_
      refine va_get (D := D) (ci := 5) (v := .int (nI fn)) (C := RX7) (T := TX7) (N := 16) hx hb hts hinX7 hown hK.1 hP 0 rfl rfl 2 (by decide) hf16 (fun _ h9 => h9) rfl dX7_answers_14 ?_
      refine lv_icmp_ge (tgt := 67) hx hb dX7_answers_17 (by decide) (fun c17 => ?_) (fun c17 => ?_)
      · exact False.elim (nI_ge (a := k12) (b := fn) (by omega) (by omega) c17)
      · skip
        refine lv_iload_n hx hb dX7_answers_20 rfl (lv_at hl 2 rfl) ?_
        refine lv_iload_n hx hb dX7_answers_21 rfl (lv_at hl 3 rfl) ?_
        refine lv_isub hx hb dX7_answers_22 ?_
        refine lv_iconst (v := 0) hx hb dX7_answers_23 (by decide) ?_
        refine lv_aload_n hx hb dX7_answers_24 rfl (lv_at hl 0 rfl) ?_
        refine va_get (D := D) (ci := 5) (v := .ref a0) (C := RX7) (T := TX7) (N := 16) hx hb hts hinX7 hown hK.1 hP 0 rfl rfl 0 (by decide) hf7 (fun _ h9 => h9) rfl dX7_answers_25 ?_
        refine lv_iload_n hx hb dX7_answers_28 rfl (lv_at hl 1 rfl) ?_
        refine w_ald hx hb hK hP 1 0 rfl rfl (cc) rfl (by omega) (by omega) dX7_answers_29 ?_
        refine lv_iconst (v := 1) hx hb dX7_answers_30 (by decide) ?_
        refine lv_isub hx hb dX7_answers_31 ?_
        have hPc := hP.sub (ws' := []) [] rfl
        refine cs_i (va_runS (As := [.int (kk - (nI k12)), .int 0, .int ((nI (sn cc)) - 1)]) (rest := []) ⟨hx, hb, hml, hown, hts⟩ (c_X7_in l D cI (kk - (nI k12)) 0 ((nI (sn cc)) - 1) ) (va_cwS 3 hts gX7_answers_X7_in rfl rfl rfl (by decide +kernel) ⟨(Nat.le_of_ble_eq_true rfl), (Nat.le_of_ble_eq_true rfl)⟩) (ro_pre hPc hK) rfl rfl hl.1 rfl (lv_room (Nat.le_of_ble_eq_true rfl)) dX7_answers_32 ⟨Nat.zero_le _, Nat.zero_le _⟩) ?_
        refine lv_if_eq (tgt := 61) hx hb dX7_answers_35 (by decide) (fun c35 => ?_) (fun c35 => ?_)
        · rw [if_pos c35] at hF
          refine lv_iinc (v := nI (k12 + 1)) (lv' := [(3, .int (nI (k12 + 1))), (0, .ref h), (1, .int (nI cc)), (2, .int kk)]) hx hb dX7_answers_61 hl (k := 3) rfl (nI_1 _) (by decide) rfl (fun ls hl => ?_)
          refine lv_goto (tgt := 12) hx hb dX7_answers_64 (by decide) ?_
          exact ih12 (k12 + 1) re ot H locs ls (by omega) (by omega) hP hD hS (lv_sub hl [1, 2, 3, 0] rfl) hF
        · rw [if_neg c35] at hF
          refine lv_aload_n hx hb dX7_answers_38 rfl (lv_at hl 0 rfl) ?_
          refine lv_aload_n hx hb dX7_answers_39 rfl (lv_at hl 0 rfl) ?_
          refine va_get (D := D) (ci := 5) (v := .ref a1) (C := RX7) (T := TX7) (N := 16) hx hb hts hinX7 hown hK.1 hP 0 rfl rfl 1 (by decide) hf13 (fun _ h9 => h9) rfl dX7_answers_40 ?_
          refine lv_bipush (v := 16) hx hb dX7_answers_43 (by decide) ?_
          refine lv_iload_n hx hb dX7_answers_45 rfl (lv_at hl 1 rfl) ?_
          refine lv_imul hx hb dX7_answers_46 ?_
          refine lv_iload_n hx hb dX7_answers_47 rfl (lv_at hl 2 rfl) ?_
          refine lv_iadd hx hb dX7_answers_48 ?_
          refine lv_iload_n hx hb dX7_answers_49 rfl (lv_at hl 3 rfl) ?_
          refine lv_isub hx hb dX7_answers_50 ?_
          refine va_iald hx hb hK.1 hP 2 0 rfl rfl (ans_in c35 (by omega) (by omega)) dX7_answers_51 ?_
          refine lv_aload_n hx hb dX7_answers_52 rfl (lv_at hl 0 rfl) ?_
          refine va_get (D := D) (ci := 5) (v := .ref a3) (C := RX7) (T := TX7) (N := 16) hx hb hts hinX7 hown hK.1 hP 0 rfl rfl 3 (by decide) hf20 (fun _ h9 => h9) rfl dX7_answers_53 ?_
          refine lv_iload_n hx hb dX7_answers_56 rfl (lv_at hl 3 rfl) ?_
          refine w_ald hx hb hK hP 3 0 rfl rfl (k12) rfl (by omega) (by omega) dX7_answers_57 ?_
          refine cw_v (va_runV (As := [.int (tu (((16 * (nI cc)) + kk) - (nI k12)).toNatClampNeg), .int (we k12)]) (rest := []) ⟨hx, hb, hml, hown, hts⟩ (c_X7_add l D cI H.size h a0 a1 a3 a5 a6 a8 a12 sn tu fn we rn per rea wn rw bs re ot cp ab be hh (tu (((16 * (nI cc)) + kk) - (nI k12)).toNatClampNeg) (we k12) ) (cwV 2 hts gX7_answers_X7_add rfl rfl rfl (by decide +kernel) ⟨(Nat.le_of_ble_eq_true rfl), (Nat.le_of_ble_eq_true rfl)⟩) (wr_preV hP hD hK rfl (q0 := 0) rfl) rfl rfl hl.1 rfl (lv_room (Nat.le_of_ble_eq_true rfl)) dX7_answers_58 ⟨Nat.zero_le _, Nat.zero_le _⟩) hP hD hS hA [0, 1, 2, 3, 4, 5, 6, 7] rfl rfl (fun H locs hP hD hS => ?_)
          have hP : va_P D vwCl [(h, .inr (5, [.ref a0, .ref a1, .int (nI fn), .ref a3, .int (nI rn), .ref a5, .ref a6, .int (nI wn), .ref a8, .int (nI bs), .int ((fX7_add re ot (tu (((16 * (nI cc)) + kk) - (nI k12)).toNatClampNeg) (we k12)).1), .int ((fX7_add re ot (tu (((16 * (nI cc)) + kk) - (nI k12)).toNatClampNeg) (we k12)).2), .ref a12, .long ab, .long be, .long hh])), (a0, .inl (cI, 6, .inl (fun i => nI (sn i)))), (a1, .inl (cI, 96, .inl tu)), (a3, .inl (cI, 24, .inl we)), (a5, .inl (cI, 4, .inl (fun i => nI (per i)))), (a6, .inl (cI, 4, .inl rea)), (a8, .inl (cI, 64, .inl rw)), (a12, .inl (cI, 16, .inl cp))] H := hP
          have hD : va_D A [(h, .inr (5, [.ref a0, .ref a1, .int (nI fn), .ref a3, .int (nI rn), .ref a5, .ref a6, .int (nI wn), .ref a8, .int (nI bs), .int ((fX7_add re ot (tu (((16 * (nI cc)) + kk) - (nI k12)).toNatClampNeg) (we k12)).1), .int ((fX7_add re ot (tu (((16 * (nI cc)) + kk) - (nI k12)).toNatClampNeg) (we k12)).2), .ref a12, .long ab, .long be, .long hh])), (a0, .inl (cI, 6, .inl (fun i => nI (sn i)))), (a1, .inl (cI, 96, .inl tu)), (a3, .inl (cI, 24, .inl we)), (a5, .inl (cI, 4, .inl (fun i => nI (per i)))), (a6, .inl (cI, 4, .inl rea)), (a8, .inl (cI, 64, .inl rw)), (a12, .inl (cI, 16, .inl cp))] := hD
          refine lv_iinc (v := nI (k12 + 1)) (lv' := [(3, .int (nI (k12 + 1))), (0, .ref h), (1, .int (nI cc)), (2, .int kk)]) hx hb dX7_answers_61 hl (k := 3) rfl (nI_1 _) (by decide) rfl (fun ls hl => ?_)
          refine lv_goto (tgt := 12) hx hb dX7_answers_64 (by decide) ?_
          exact ih12 (k12 + 1) ((fX7_add re ot (tu (((16 * (nI cc)) + kk) - (nI k12)).toNatClampNeg) (we k12)).1) ((fX7_add re ot (tu (((16 * (nI cc)) + kk) - (nI k12)).toNatClampNeg) (we k12)).2) H locs ls (by omega) (by omega) hP hD hS (lv_sub hl [1, 2, 3, 0] rfl) hF
  exact lp12 (fn - 0) 0 0 0 H _ ls rfl (by omega) hP hD hS (lv_sub hl [1, 2, 3, 0] rfl) hF
def fX7_answer (sn : Nat → Nat) (tu : Nat → Int32) (fn : Nat) (we : Nat → Int32) (re : Int32) (ot : Int32) (xc : Int32) (xk : Int32) (xp : Int32) : Int32 × Int32 × Int32 := (if (fX7_isSign xc) = 0 then ((-100000), re, ot) else (if xk < 0 then ((-100001), re, ot) else (if (fX7_in xp 0 1) = 0 then ((-100001), re, ot) else (if 100 ≤ xk then (if xp = 0 then ((fX7_answers sn tu fn we (xc.toNatClampNeg) 100).2.1, (fX7_answers sn tu fn we (xc.toNatClampNeg) 100).2.1, (fX7_answers sn tu fn we (xc.toNatClampNeg) 100).2.2) else ((fX7_answers sn tu fn we (xc.toNatClampNeg) 100).2.2, (fX7_answers sn tu fn we (xc.toNatClampNeg) 100).2.1, (fX7_answers sn tu fn we (xc.toNatClampNeg) 100).2.2)) else (if xp = 0 then ((fX7_answers sn tu fn we (xc.toNatClampNeg) xk).2.1, (fX7_answers sn tu fn we (xc.toNatClampNeg) xk).2.1, (fX7_answers sn tu fn we (xc.toNatClampNeg) xk).2.2) else ((fX7_answers sn tu fn we (xc.toNatClampNeg) xk).2.2, (fX7_answers sn tu fn we (xc.toNatClampNeg) xk).2.1, (fX7_answers sn tu fn we (xc.toNatClampNeg) xk).2.2))))))
abbrev rmX7_answer : Room := { frames := 2, cells := 0, slots := 0, locals := 45 }
set_option maxHeartbeats 4000000 in
set_option maxRecDepth 100000 in
theorem c_X7_answer (l : Launch) (D : va_G) (cI : ClassId) (sz : Nat) (h : Nat) (a0 : Nat) (a1 : Nat) (a3 : Nat) (a5 : Nat) (a6 : Nat) (a8 : Nat) (a12 : Nat) (sn : Nat → Nat) (tu : Nat → Int32) (fn : Nat) (we : Nat → Int32) (rn : Nat) (per : Nat → Nat) (rea : Nat → Int32) (wn : Nat) (rw : Nat → Int32) (bs : Nat) (re : Int32) (ot : Int32) (cp : Nat → Int32) (ab : Int64) (be : Int64) (hh : Int64) (xc : Int32) (xk : Int32) (xp : Int32) (hsn : ∀ c, c < 6 → 1 ≤ sn c ∧ sn c ≤ 16) (hfn : 1 ≤ fn ∧ fn ≤ 24) : Met l yX7_answer wsX7_answer rmX7_answer (va_Pc [.ref h, .int xc, .int xk, .int xp] (wrP D [(cI, .int)] [(h, .inr (5, [.ref a0, .ref a1, .int (nI fn), .ref a3, .int (nI rn), .ref a5, .ref a6, .int (nI wn), .ref a8, .int (nI bs), .int re, .int ot, .ref a12, .long ab, .long be, .long hh])), (a0, .inl (cI, 6, .inl (fun i => nI (sn i)))), (a1, .inl (cI, 96, .inl tu)), (a3, .inl (cI, 24, .inl we)), (a5, .inl (cI, 4, .inl (fun i => nI (per i)))), (a6, .inl (cI, 4, .inl rea)), (a8, .inl (cI, 64, .inl rw)), (a12, .inl (cI, 16, .inl cp))] sz)) (va_Qi (fun r9 (_ : Unit) => r9 = (fX7_answer sn tu fn we re ot xc xk xp).1) (fun _ u9 => va_P D vwCl [(h, .inr (5, [.ref a0, .ref a1, .int (nI fn), .ref a3, .int (nI rn), .ref a5, .ref a6, .int (nI wn), .ref a8, .int (nI bs), .int ((fX7_answer sn tu fn we re ot xc xk xp).2.1), .int ((fX7_answer sn tu fn we re ot xc xk xp).2.2), .ref a12, .long ab, .long be, .long hh])), (a0, .inl (cI, 6, .inl (fun i => nI (sn i)))), (a1, .inl (cI, 96, .inl tu)), (a3, .inl (cI, 24, .inl we)), (a5, .inl (cI, 4, .inl (fun i => nI (per i)))), (a6, .inl (cI, 4, .inl rea)), (a8, .inl (cI, 64, .inl rw)), (a12, .inl (cI, 16, .inl cp))] u9.heap) (va_A [(h, .inr (5, [.ref a0, .ref a1, .int (nI fn), .ref a3, .int (nI rn), .ref a5, .ref a6, .int (nI wn), .ref a8, .int (nI bs), .int re, .int ot, .ref a12, .long ab, .long be, .long hh])), (a0, .inl (cI, 6, .inl (fun i => nI (sn i)))), (a1, .inl (cI, 96, .inl tu)), (a3, .inl (cI, 24, .inl we)), (a5, .inl (cI, 4, .inl (fun i => nI (per i)))), (a6, .inl (cI, 4, .inl rea)), (a8, .inl (cI, 64, .inl rw)), (a12, .inl (cI, 16, .inl cp))] sz)) 0 0 (va_A [(h, .inr (5, [.ref a0, .ref a1, .int (nI fn), .ref a3, .int (nI rn), .ref a5, .ref a6, .int (nI wn), .ref a8, .int (nI bs), .int re, .int ot, .ref a12, .long ab, .long be, .long hh])), (a0, .inl (cI, 6, .inl (fun i => nI (sn i)))), (a1, .inl (cI, 96, .inl tu)), (a3, .inl (cI, 24, .inl we)), (a5, .inl (cI, 4, .inl (fun i => nI (per i)))), (a6, .inl (cI, 4, .inl rea)), (a8, .inl (cI, 64, .inl rw)), (a12, .inl (cI, 16, .inl cp))] sz) := by
  generalize hF : fX7_answer sn tu fn we re ot xc xk xp = T
  refine Met.ofW (cc := cX7_answer) (maxL := 4) (ret := (some .int)) (by decide) rfl ?_
  intro p e s m args below meth c s₁ B hml hv
  obtain ⟨rfl, hsz, hP, hK, hD0⟩ := hv
  have hx := B.exec
  have hb := B.bytes
  have hr := B.returns
  have hts := atoms_spec (ws := wsX7_answer) B.pre
  have hown : s.vm.findClass RX7 = some m.cls := findClass_of_methodNamed B.named
  have hlocks := B.notSynchronized
  have hinX7 : ∀ w ∈ u_ws RX7 TX7 16, w ∈ wsX7_answer := by decide +kernel
  have hcst75 := hts (.constant RX7 75 (-100001)) (by decide +kernel)
  have hf49 := hts (.fieldLink RX7 49 "PulseSignsModel" "other" "I") (by decide +kernel)
  have hf46 := hts (.fieldLink RX7 46 "PulseSignsModel" "real" "I") (by decide +kernel)
  have hcst74 := hts (.constant RX7 74 (-100000)) (by decide +kernel)
  subst hsz
  have hD := hD0.self (sz := s.heap.size)
  generalize hAe : va_A [(h, .inr (5, [.ref a0, .ref a1, .int (nI fn), .ref a3, .int (nI rn), .ref a5, .ref a6, .int (nI wn), .ref a8, .int (nI bs), .int re, .int ot, .ref a12, .long ab, .long be, .long hh])), (a0, .inl (cI, 6, .inl (fun i => nI (sn i)))), (a1, .inl (cI, 96, .inl tu)), (a3, .inl (cI, 24, .inl we)), (a5, .inl (cI, 4, .inl (fun i => nI (per i)))), (a6, .inl (cI, 4, .inl rea)), (a8, .inl (cI, 64, .inl rw)), (a12, .inl (cI, 16, .inl cp))] s.heap.size = A at hD ⊢
  have hA : ∀ q : Nat, s.heap.size ≤ q → A q := fun q h => by rw [← hAe]; exact Or.inr h
  have hS : va_S A s.heap s.heap [] := va_S.rf
  have hP : va_P D vwCl [(h, .inr (5, [.ref a0, .ref a1, .int (nI fn), .ref a3, .int (nI rn), .ref a5, .ref a6, .int (nI wn), .ref a8, .int (nI bs), .int re, .int ot, .ref a12, .long ab, .long be, .long hh])), (a0, .inl (cI, 6, .inl (fun i => nI (sn i)))), (a1, .inl (cI, 96, .inl tu)), (a3, .inl (cI, 24, .inl we)), (a5, .inl (cI, 4, .inl (fun i => nI (per i)))), (a6, .inl (cI, 4, .inl rea)), (a8, .inl (cI, 64, .inl rw)), (a12, .inl (cI, 16, .inl cp))] s.heap := hP
  have hl := lv_entry ([.ref h, .int xc, .int xk, .int xp]) (n := 4) (Nat.le_of_ble_eq_true rfl)
  rw [lg_entry_eq]
  generalize (lg_sl ([.ref h, .int xc, .int xk, .int xp]) ++ List.replicate (4 - (lg_sl ([.ref h, .int xc, .int xk, .int xp])).length) Slot.unset).toArray = ls at hl ⊢
  refine w_Q (fun Q hQ => ?_)
  have hl : lv_has ls 4 [(0, .ref h), (1, .int xc), (2, .int xk), (3, .int xp)] := hl
  rw [fX7_answer] at hF
  refine lv_iload_n hx hb dX7_answer_0 rfl (lv_at hl 1 rfl) ?_
  have hPc := hP.sub (ws' := []) [] rfl
  refine cs_i (va_runS (As := [.int xc]) (rest := []) ⟨hx, hb, hml, hown, hts⟩ (c_X7_isSign l D cI xc ) (va_cwS 1 hts gX7_answer_X7_isSign rfl rfl rfl (by decide +kernel) ⟨(Nat.le_of_ble_eq_true rfl), (Nat.le_of_ble_eq_true rfl)⟩) (ro_pre hPc hK) rfl rfl hl.1 rfl (lv_room (Nat.le_of_ble_eq_true rfl)) dX7_answer_1 ⟨Nat.zero_le _, Nat.zero_le _⟩) ?_
  refine lv_if_ne (tgt := 10) hx hb dX7_answer_4 (by decide) (fun c4 => ?_) (fun c4 => ?_)
  · rw [if_neg c4] at hF
    obtain ⟨cn, hcn, rfl⟩ := sign_nat c4
    have e_cn : (nI cn).toNatClampNeg = cn := nI_clamp (by omega)
    try simp only [e_cn] at hF
    refine lv_iload_n hx hb dX7_answer_10 rfl (lv_at hl 2 rfl) ?_
    refine lv_if_lt (tgt := 23) hx hb dX7_answer_11 (by decide) (fun c11 => ?_) (fun c11 => ?_)
    · rw [if_pos c11] at hF
      refine lv_ldc (v := (-100001)) hx hb hown hcst75 dX7_answer_23 ?_
      subst hF
      subst hQ
      exact W.iret (v := (-100001)) hx hb hr (fun u9 ht hW => ⟨⟨_, (), rfl, rfl, by rw [← ht] at hP; exact hP⟩, hS.F ht⟩) hS.2.2 dX7_answer_25
    · rw [if_neg c11] at hF
      refine lv_iload_n hx hb dX7_answer_14 rfl (lv_at hl 3 rfl) ?_
      refine lv_iconst (v := 0) hx hb dX7_answer_15 (by decide) ?_
      refine lv_iconst (v := 1) hx hb dX7_answer_16 (by decide) ?_
      have hPc := hP.sub (ws' := []) [] rfl
      refine cs_i (va_runS (As := [.int xp, .int 0, .int 1]) (rest := []) ⟨hx, hb, hml, hown, hts⟩ (c_X7_in l D cI xp 0 1 ) (va_cwS 3 hts gX7_answer_X7_in rfl rfl rfl (by decide +kernel) ⟨(Nat.le_of_ble_eq_true rfl), (Nat.le_of_ble_eq_true rfl)⟩) (ro_pre hPc hK) rfl rfl hl.1 rfl (lv_room (Nat.le_of_ble_eq_true rfl)) dX7_answer_17 ⟨Nat.zero_le _, Nat.zero_le _⟩) ?_
      refine lv_if_ne (tgt := 26) hx hb dX7_answer_20 (by decide) (fun c20 => ?_) (fun c20 => ?_)
      · rw [if_neg c20] at hF
        refine lv_aload_n hx hb dX7_answer_26 rfl (lv_at hl 0 rfl) ?_
        refine lv_iload_n hx hb dX7_answer_27 rfl (lv_at hl 1 rfl) ?_
        refine lv_iload_n hx hb dX7_answer_28 rfl (lv_at hl 2 rfl) ?_
        refine lv_bipush (v := 100) hx hb dX7_answer_29 (by decide) ?_
        refine lv_icmp_ge (tgt := 38) hx hb dX7_answer_31 (by decide) (fun c31 => ?_) (fun c31 => ?_)
        · rw [if_pos c31] at hF
          refine lv_bipush (v := 100) hx hb dX7_answer_38 (by decide) ?_
          refine cw_i (va_runV (As := [.int (nI cn), .int 100]) (rest := []) ⟨hx, hb, hml, hown, hts⟩ (c_X7_answers l D cI s.heap.size h a0 a1 a3 a5 a6 a8 a12 sn tu fn we rn per rea wn rw bs re ot cp ab be hh cn 100 (by first | assumption | omega) (by first | assumption | omega) (by first | assumption | omega)) (cwV 2 hts gX7_answer_X7_answers rfl rfl rfl (by decide +kernel) ⟨(Nat.le_of_ble_eq_true rfl), (Nat.le_of_ble_eq_true rfl)⟩) (wr_preV hP hD hK rfl (q0 := 0) rfl) rfl rfl hl.1 rfl (lv_room (Nat.le_of_ble_eq_true rfl)) dX7_answer_40 ⟨Nat.zero_le _, Nat.zero_le _⟩) hP hD hS hA [0, 1, 2, 3, 4, 5, 6, 7] rfl rfl (fun H locs hP hD hS => ?_)
          have hP : va_P D vwCl [(h, .inr (5, [.ref a0, .ref a1, .int (nI fn), .ref a3, .int (nI rn), .ref a5, .ref a6, .int (nI wn), .ref a8, .int (nI bs), .int ((fX7_answers sn tu fn we cn 100).2.1), .int ((fX7_answers sn tu fn we cn 100).2.2), .ref a12, .long ab, .long be, .long hh])), (a0, .inl (cI, 6, .inl (fun i => nI (sn i)))), (a1, .inl (cI, 96, .inl tu)), (a3, .inl (cI, 24, .inl we)), (a5, .inl (cI, 4, .inl (fun i => nI (per i)))), (a6, .inl (cI, 4, .inl rea)), (a8, .inl (cI, 64, .inl rw)), (a12, .inl (cI, 16, .inl cp))] H := hP
          have hD : va_D A [(h, .inr (5, [.ref a0, .ref a1, .int (nI fn), .ref a3, .int (nI rn), .ref a5, .ref a6, .int (nI wn), .ref a8, .int (nI bs), .int ((fX7_answers sn tu fn we cn 100).2.1), .int ((fX7_answers sn tu fn we cn 100).2.2), .ref a12, .long ab, .long be, .long hh])), (a0, .inl (cI, 6, .inl (fun i => nI (sn i)))), (a1, .inl (cI, 96, .inl tu)), (a3, .inl (cI, 24, .inl we)), (a5, .inl (cI, 4, .inl (fun i => nI (per i)))), (a6, .inl (cI, 4, .inl rea)), (a8, .inl (cI, 64, .inl rw)), (a12, .inl (cI, 16, .inl cp))] := hD
          refine lv_pop hx hb dX7_answer_43 rfl ?_
          refine lv_iload_n hx hb dX7_answer_44 rfl (lv_at hl 3 rfl) ?_
          refine lv_if_ne (tgt := 55) hx hb dX7_answer_45 (by decide) (fun c45 => ?_) (fun c45 => ?_)
          · rw [if_neg c45] at hF
            refine lv_aload_n hx hb dX7_answer_55 rfl (lv_at hl 0 rfl) ?_
            refine va_get (D := D) (ci := 5) (v := .int ((fX7_answers sn tu fn we cn 100).2.2)) (C := RX7) (T := TX7) (N := 16) hx hb hts hinX7 hown hK.1 hP 0 rfl rfl 11 (by decide) hf49 (fun _ h9 => h9) rfl dX7_answer_56 ?_
            subst hF
            subst hQ
            exact W.iret (v := (fX7_answers sn tu fn we cn 100).2.2) hx hb hr (fun u9 ht hW => ⟨⟨_, (), rfl, rfl, by rw [← ht] at hP; exact hP⟩, hS.F ht⟩) hS.2.2 dX7_answer_59
          · rw [if_pos c45] at hF
            refine lv_aload_n hx hb dX7_answer_48 rfl (lv_at hl 0 rfl) ?_
            refine va_get (D := D) (ci := 5) (v := .int ((fX7_answers sn tu fn we cn 100).2.1)) (C := RX7) (T := TX7) (N := 16) hx hb hts hinX7 hown hK.1 hP 0 rfl rfl 10 (by decide) hf46 (fun _ h9 => h9) rfl dX7_answer_49 ?_
            refine lv_goto (tgt := 59) hx hb dX7_answer_52 (by decide) ?_
            subst hF
            subst hQ
            exact W.iret (v := (fX7_answers sn tu fn we cn 100).2.1) hx hb hr (fun u9 ht hW => ⟨⟨_, (), rfl, rfl, by rw [← ht] at hP; exact hP⟩, hS.F ht⟩) hS.2.2 dX7_answer_59
        · rw [if_neg c31] at hF
          refine lv_iload_n hx hb dX7_answer_34 rfl (lv_at hl 2 rfl) ?_
          refine lv_goto (tgt := 40) hx hb dX7_answer_35 (by decide) ?_
          refine cw_i (va_runV (As := [.int (nI cn), .int xk]) (rest := []) ⟨hx, hb, hml, hown, hts⟩ (c_X7_answers l D cI s.heap.size h a0 a1 a3 a5 a6 a8 a12 sn tu fn we rn per rea wn rw bs re ot cp ab be hh cn xk (by first | assumption | omega) (by first | assumption | omega) (by first | assumption | omega)) (cwV 2 hts gX7_answer_X7_answers rfl rfl rfl (by decide +kernel) ⟨(Nat.le_of_ble_eq_true rfl), (Nat.le_of_ble_eq_true rfl)⟩) (wr_preV hP hD hK rfl (q0 := 0) rfl) rfl rfl hl.1 rfl (lv_room (Nat.le_of_ble_eq_true rfl)) dX7_answer_40 ⟨Nat.zero_le _, Nat.zero_le _⟩) hP hD hS hA [0, 1, 2, 3, 4, 5, 6, 7] rfl rfl (fun H locs hP hD hS => ?_)
          have hP : va_P D vwCl [(h, .inr (5, [.ref a0, .ref a1, .int (nI fn), .ref a3, .int (nI rn), .ref a5, .ref a6, .int (nI wn), .ref a8, .int (nI bs), .int ((fX7_answers sn tu fn we cn xk).2.1), .int ((fX7_answers sn tu fn we cn xk).2.2), .ref a12, .long ab, .long be, .long hh])), (a0, .inl (cI, 6, .inl (fun i => nI (sn i)))), (a1, .inl (cI, 96, .inl tu)), (a3, .inl (cI, 24, .inl we)), (a5, .inl (cI, 4, .inl (fun i => nI (per i)))), (a6, .inl (cI, 4, .inl rea)), (a8, .inl (cI, 64, .inl rw)), (a12, .inl (cI, 16, .inl cp))] H := hP
          have hD : va_D A [(h, .inr (5, [.ref a0, .ref a1, .int (nI fn), .ref a3, .int (nI rn), .ref a5, .ref a6, .int (nI wn), .ref a8, .int (nI bs), .int ((fX7_answers sn tu fn we cn xk).2.1), .int ((fX7_answers sn tu fn we cn xk).2.2), .ref a12, .long ab, .long be, .long hh])), (a0, .inl (cI, 6, .inl (fun i => nI (sn i)))), (a1, .inl (cI, 96, .inl tu)), (a3, .inl (cI, 24, .inl we)), (a5, .inl (cI, 4, .inl (fun i => nI (per i)))), (a6, .inl (cI, 4, .inl rea)), (a8, .inl (cI, 64, .inl rw)), (a12, .inl (cI, 16, .inl cp))] := hD
          refine lv_pop hx hb dX7_answer_43 rfl ?_
          refine lv_iload_n hx hb dX7_answer_44 rfl (lv_at hl 3 rfl) ?_
          refine lv_if_ne (tgt := 55) hx hb dX7_answer_45 (by decide) (fun c45 => ?_) (fun c45 => ?_)
          · rw [if_neg c45] at hF
            refine lv_aload_n hx hb dX7_answer_55 rfl (lv_at hl 0 rfl) ?_
            refine va_get (D := D) (ci := 5) (v := .int ((fX7_answers sn tu fn we cn xk).2.2)) (C := RX7) (T := TX7) (N := 16) hx hb hts hinX7 hown hK.1 hP 0 rfl rfl 11 (by decide) hf49 (fun _ h9 => h9) rfl dX7_answer_56 ?_
            subst hF
            subst hQ
            exact W.iret (v := (fX7_answers sn tu fn we cn xk).2.2) hx hb hr (fun u9 ht hW => ⟨⟨_, (), rfl, rfl, by rw [← ht] at hP; exact hP⟩, hS.F ht⟩) hS.2.2 dX7_answer_59
          · rw [if_pos c45] at hF
            refine lv_aload_n hx hb dX7_answer_48 rfl (lv_at hl 0 rfl) ?_
            refine va_get (D := D) (ci := 5) (v := .int ((fX7_answers sn tu fn we cn xk).2.1)) (C := RX7) (T := TX7) (N := 16) hx hb hts hinX7 hown hK.1 hP 0 rfl rfl 10 (by decide) hf46 (fun _ h9 => h9) rfl dX7_answer_49 ?_
            refine lv_goto (tgt := 59) hx hb dX7_answer_52 (by decide) ?_
            subst hF
            subst hQ
            exact W.iret (v := (fX7_answers sn tu fn we cn xk).2.1) hx hb hr (fun u9 ht hW => ⟨⟨_, (), rfl, rfl, by rw [← ht] at hP; exact hP⟩, hS.F ht⟩) hS.2.2 dX7_answer_59
      · rw [if_pos c20] at hF
        refine lv_ldc (v := (-100001)) hx hb hown hcst75 dX7_answer_23 ?_
        subst hF
        subst hQ
        exact W.iret (v := (-100001)) hx hb hr (fun u9 ht hW => ⟨⟨_, (), rfl, rfl, by rw [← ht] at hP; exact hP⟩, hS.F ht⟩) hS.2.2 dX7_answer_25
  · rw [if_pos c4] at hF
    refine lv_ldc (v := (-100000)) hx hb hown hcst74 dX7_answer_7 ?_
    subst hF
    subst hQ
    exact W.iret (v := (-100000)) hx hb hr (fun u9 ht hW => ⟨⟨_, (), rfl, rfl, by rw [← ht] at hP; exact hP⟩, hS.F ht⟩) hS.2.2 dX7_answer_9
def F_X7_greatestOf_12 (sn : Nat → Nat) (tu : Nat → Int32) (fn : Nat) (we : Nat → Int32) (cc : Nat) : Nat → Nat → Int32 → Int32 → Int32 → Int32 → (Int32 × Int32 × Int32)
  | 0, k12, x2, x3, re, ot => (x2, re, ot)
  | r12 + 1, k12, x2, x3, re, ot => (if ((fX7_answers sn tu fn we cc (nI k12)).1) ≤ x3 then F_X7_greatestOf_12 sn tu fn we cc r12 (k12 + 1) x2 x3 ((fX7_answers sn tu fn we cc (nI k12)).2.1) ((fX7_answers sn tu fn we cc (nI k12)).2.2) else F_X7_greatestOf_12 sn tu fn we cc r12 (k12 + 1) (nI k12) ((fX7_answers sn tu fn we cc (nI k12)).1) ((fX7_answers sn tu fn we cc (nI k12)).2.1) ((fX7_answers sn tu fn we cc (nI k12)).2.2))
def fX7_greatestOf (sn : Nat → Nat) (tu : Nat → Int32) (fn : Nat) (we : Nat → Int32) (re : Int32) (ot : Int32) (cc : Nat) : Int32 × Int32 × Int32 := F_X7_greatestOf_12 sn tu fn we cc ((sn cc + fn - 1) - 1) 1 0 ((fX7_answers sn tu fn we cc 0).1) ((fX7_answers sn tu fn we cc 0).2.1) ((fX7_answers sn tu fn we cc 0).2.2)
abbrev rmX7_greatestOf : Room := { frames := 2, cells := 0, slots := 0, locals := 45 }
set_option maxHeartbeats 4000000 in
set_option maxRecDepth 100000 in
theorem c_X7_greatestOf (l : Launch) (D : va_G) (cI : ClassId) (sz : Nat) (h : Nat) (a0 : Nat) (a1 : Nat) (a3 : Nat) (a5 : Nat) (a6 : Nat) (a8 : Nat) (a12 : Nat) (sn : Nat → Nat) (tu : Nat → Int32) (fn : Nat) (we : Nat → Int32) (rn : Nat) (per : Nat → Nat) (rea : Nat → Int32) (wn : Nat) (rw : Nat → Int32) (bs : Nat) (re : Int32) (ot : Int32) (cp : Nat → Int32) (ab : Int64) (be : Int64) (hh : Int64) (cc : Nat) (hsn : ∀ c, c < 6 → 1 ≤ sn c ∧ sn c ≤ 16) (hc6 : cc < 6) (hfn : 1 ≤ fn ∧ fn ≤ 24) : Met l yX7_greatestOf wsX7_greatestOf rmX7_greatestOf (va_Pc [.ref h, .int (nI cc)] (wrP D [(cI, .int)] [(h, .inr (5, [.ref a0, .ref a1, .int (nI fn), .ref a3, .int (nI rn), .ref a5, .ref a6, .int (nI wn), .ref a8, .int (nI bs), .int re, .int ot, .ref a12, .long ab, .long be, .long hh])), (a0, .inl (cI, 6, .inl (fun i => nI (sn i)))), (a1, .inl (cI, 96, .inl tu)), (a3, .inl (cI, 24, .inl we)), (a5, .inl (cI, 4, .inl (fun i => nI (per i)))), (a6, .inl (cI, 4, .inl rea)), (a8, .inl (cI, 64, .inl rw)), (a12, .inl (cI, 16, .inl cp))] sz)) (va_Qi (fun r9 (_ : Unit) => r9 = (fX7_greatestOf sn tu fn we re ot cc).1) (fun _ u9 => va_P D vwCl [(h, .inr (5, [.ref a0, .ref a1, .int (nI fn), .ref a3, .int (nI rn), .ref a5, .ref a6, .int (nI wn), .ref a8, .int (nI bs), .int ((fX7_greatestOf sn tu fn we re ot cc).2.1), .int ((fX7_greatestOf sn tu fn we re ot cc).2.2), .ref a12, .long ab, .long be, .long hh])), (a0, .inl (cI, 6, .inl (fun i => nI (sn i)))), (a1, .inl (cI, 96, .inl tu)), (a3, .inl (cI, 24, .inl we)), (a5, .inl (cI, 4, .inl (fun i => nI (per i)))), (a6, .inl (cI, 4, .inl rea)), (a8, .inl (cI, 64, .inl rw)), (a12, .inl (cI, 16, .inl cp))] u9.heap) (va_A [(h, .inr (5, [.ref a0, .ref a1, .int (nI fn), .ref a3, .int (nI rn), .ref a5, .ref a6, .int (nI wn), .ref a8, .int (nI bs), .int re, .int ot, .ref a12, .long ab, .long be, .long hh])), (a0, .inl (cI, 6, .inl (fun i => nI (sn i)))), (a1, .inl (cI, 96, .inl tu)), (a3, .inl (cI, 24, .inl we)), (a5, .inl (cI, 4, .inl (fun i => nI (per i)))), (a6, .inl (cI, 4, .inl rea)), (a8, .inl (cI, 64, .inl rw)), (a12, .inl (cI, 16, .inl cp))] sz)) 0 0 (va_A [(h, .inr (5, [.ref a0, .ref a1, .int (nI fn), .ref a3, .int (nI rn), .ref a5, .ref a6, .int (nI wn), .ref a8, .int (nI bs), .int re, .int ot, .ref a12, .long ab, .long be, .long hh])), (a0, .inl (cI, 6, .inl (fun i => nI (sn i)))), (a1, .inl (cI, 96, .inl tu)), (a3, .inl (cI, 24, .inl we)), (a5, .inl (cI, 4, .inl (fun i => nI (per i)))), (a6, .inl (cI, 4, .inl rea)), (a8, .inl (cI, 64, .inl rw)), (a12, .inl (cI, 16, .inl cp))] sz) := by
  generalize hF : fX7_greatestOf sn tu fn we re ot cc = T
  refine Met.ofW (cc := cX7_greatestOf) (maxL := 6) (ret := (some .int)) (by decide) rfl ?_
  intro p e s m args below meth c s₁ B hml hv
  obtain ⟨rfl, hsz, hP, hK, hD0⟩ := hv
  have hx := B.exec
  have hb := B.bytes
  have hr := B.returns
  have hts := atoms_spec (ws := wsX7_greatestOf) B.pre
  have hown : s.vm.findClass RX7 = some m.cls := findClass_of_methodNamed B.named
  have hlocks := B.notSynchronized
  have hinX7 : ∀ w ∈ u_ws RX7 TX7 16, w ∈ wsX7_greatestOf := by decide +kernel
  have hf7 := hts (.fieldLink RX7 7 "PulseSignsModel" "sizes" "[I") (by decide +kernel)
  have hf16 := hts (.fieldLink RX7 16 "PulseSignsModel" "filterSize" "I") (by decide +kernel)
  subst hsz
  have hD := hD0.self (sz := s.heap.size)
  generalize hAe : va_A [(h, .inr (5, [.ref a0, .ref a1, .int (nI fn), .ref a3, .int (nI rn), .ref a5, .ref a6, .int (nI wn), .ref a8, .int (nI bs), .int re, .int ot, .ref a12, .long ab, .long be, .long hh])), (a0, .inl (cI, 6, .inl (fun i => nI (sn i)))), (a1, .inl (cI, 96, .inl tu)), (a3, .inl (cI, 24, .inl we)), (a5, .inl (cI, 4, .inl (fun i => nI (per i)))), (a6, .inl (cI, 4, .inl rea)), (a8, .inl (cI, 64, .inl rw)), (a12, .inl (cI, 16, .inl cp))] s.heap.size = A at hD ⊢
  have hA : ∀ q : Nat, s.heap.size ≤ q → A q := fun q h => by rw [← hAe]; exact Or.inr h
  have hS : va_S A s.heap s.heap [] := va_S.rf
  have hP : va_P D vwCl [(h, .inr (5, [.ref a0, .ref a1, .int (nI fn), .ref a3, .int (nI rn), .ref a5, .ref a6, .int (nI wn), .ref a8, .int (nI bs), .int re, .int ot, .ref a12, .long ab, .long be, .long hh])), (a0, .inl (cI, 6, .inl (fun i => nI (sn i)))), (a1, .inl (cI, 96, .inl tu)), (a3, .inl (cI, 24, .inl we)), (a5, .inl (cI, 4, .inl (fun i => nI (per i)))), (a6, .inl (cI, 4, .inl rea)), (a8, .inl (cI, 64, .inl rw)), (a12, .inl (cI, 16, .inl cp))] s.heap := hP
  have hl := lv_entry ([.ref h, .int (nI cc)]) (n := 6) (Nat.le_of_ble_eq_true rfl)
  rw [lg_entry_eq]
  generalize (lg_sl ([.ref h, .int (nI cc)]) ++ List.replicate (6 - (lg_sl ([.ref h, .int (nI cc)])).length) Slot.unset).toArray = ls at hl ⊢
  refine w_Q (fun Q hQ => ?_)
  have hc16 := hsn cc hc6
  have hl : lv_has ls 6 [(0, .ref h), (1, .int (nI cc))] := hl
  rw [fX7_greatestOf] at hF
  refine lv_iconst (v := 0) hx hb dX7_greatestOf_0 (by decide) ?_
  refine lv_istore_n (lv' := [(2, .int 0), (0, .ref h), (1, .int (nI cc))]) hx hb dX7_greatestOf_1 rfl hl (by decide) rfl (fun ls hl => ?_)
  refine lv_aload_n hx hb dX7_greatestOf_2 rfl (lv_at hl 1 rfl) ?_
  refine lv_iload_n hx hb dX7_greatestOf_3 rfl (lv_at hl 2 rfl) ?_
  refine lv_iconst (v := 0) hx hb dX7_greatestOf_4 (by decide) ?_
  refine cw_i (va_runV (As := [.int (nI cc), .int 0]) (rest := []) ⟨hx, hb, hml, hown, hts⟩ (c_X7_answers l D cI s.heap.size h a0 a1 a3 a5 a6 a8 a12 sn tu fn we rn per rea wn rw bs re ot cp ab be hh cc 0 (by first | assumption | omega) (by first | assumption | omega) (by first | assumption | omega)) (cwV 2 hts gX7_greatestOf_X7_answers rfl rfl rfl (by decide +kernel) ⟨(Nat.le_of_ble_eq_true rfl), (Nat.le_of_ble_eq_true rfl)⟩) (wr_preV hP hD hK rfl (q0 := 0) rfl) rfl rfl hl.1 rfl (lv_room (Nat.le_of_ble_eq_true rfl)) dX7_greatestOf_5 ⟨Nat.zero_le _, Nat.zero_le _⟩) hP hD hS hA [0, 1, 2, 3, 4, 5, 6, 7] rfl rfl (fun H locs hP hD hS => ?_)
  have hP : va_P D vwCl [(h, .inr (5, [.ref a0, .ref a1, .int (nI fn), .ref a3, .int (nI rn), .ref a5, .ref a6, .int (nI wn), .ref a8, .int (nI bs), .int ((fX7_answers sn tu fn we cc 0).2.1), .int ((fX7_answers sn tu fn we cc 0).2.2), .ref a12, .long ab, .long be, .long hh])), (a0, .inl (cI, 6, .inl (fun i => nI (sn i)))), (a1, .inl (cI, 96, .inl tu)), (a3, .inl (cI, 24, .inl we)), (a5, .inl (cI, 4, .inl (fun i => nI (per i)))), (a6, .inl (cI, 4, .inl rea)), (a8, .inl (cI, 64, .inl rw)), (a12, .inl (cI, 16, .inl cp))] H := hP
  have hD : va_D A [(h, .inr (5, [.ref a0, .ref a1, .int (nI fn), .ref a3, .int (nI rn), .ref a5, .ref a6, .int (nI wn), .ref a8, .int (nI bs), .int ((fX7_answers sn tu fn we cc 0).2.1), .int ((fX7_answers sn tu fn we cc 0).2.2), .ref a12, .long ab, .long be, .long hh])), (a0, .inl (cI, 6, .inl (fun i => nI (sn i)))), (a1, .inl (cI, 96, .inl tu)), (a3, .inl (cI, 24, .inl we)), (a5, .inl (cI, 4, .inl (fun i => nI (per i)))), (a6, .inl (cI, 4, .inl rea)), (a8, .inl (cI, 64, .inl rw)), (a12, .inl (cI, 16, .inl cp))] := hD
  refine lv_istore_n (lv' := [(3, .int ((fX7_answers sn tu fn we cc 0).1)), (2, .int 0), (0, .ref h), (1, .int (nI cc))]) hx hb dX7_greatestOf_8 rfl hl (by decide) rfl (fun ls hl => ?_)
  refine lv_iconst (v := 1) hx hb dX7_greatestOf_9 (by decide) ?_
  refine lv_istore (lv' := [(4, .int 1), (3, .int ((fX7_answers sn tu fn we cc 0).1)), (2, .int 0), (0, .ref h), (1, .int (nI cc))]) hx hb dX7_greatestOf_10 hl (by decide) rfl (fun ls hl => ?_)
  have lp12 : ∀ (r12 k12 : Nat) (x2 : Int32) (x3 : Int32) (re : Int32) (ot : Int32) (H : Heap) (locs : List Loc) (ls : Array Slot), r12 = (sn cc + fn - 1) - k12 → k12 ≤ (sn cc + fn - 1) + 1 → va_P D vwCl [(h, .inr (5, [.ref a0, .ref a1, .int (nI fn), .ref a3, .int (nI rn), .ref a5, .ref a6, .int (nI wn), .ref a8, .int (nI bs), .int re, .int ot, .ref a12, .long ab, .long be, .long hh])), (a0, .inl (cI, 6, .inl (fun i => nI (sn i)))), (a1, .inl (cI, 96, .inl tu)), (a3, .inl (cI, 24, .inl we)), (a5, .inl (cI, 4, .inl (fun i => nI (per i)))), (a6, .inl (cI, 4, .inl rea)), (a8, .inl (cI, 64, .inl rw)), (a12, .inl (cI, 16, .inl cp))] H → va_D A [(h, .inr (5, [.ref a0, .ref a1, .int (nI fn), .ref a3, .int (nI rn), .ref a5, .ref a6, .int (nI wn), .ref a8, .int (nI bs), .int re, .int ot, .ref a12, .long ab, .long be, .long hh])), (a0, .inl (cI, 6, .inl (fun i => nI (sn i)))), (a1, .inl (cI, 96, .inl tu)), (a3, .inl (cI, 24, .inl we)), (a5, .inl (cI, 4, .inl (fun i => nI (per i)))), (a6, .inl (cI, 4, .inl rea)), (a8, .inl (cI, 64, .inl rw)), (a12, .inl (cI, 16, .inl cp))] → va_S A s.heap H locs → lv_has ls 6 [(0, .ref h), (1, .int (nI cc)), (2, .int x2), (3, .int x3), (4, .int (nI k12))] → F_X7_greatestOf_12 sn tu fn we cc r12 k12 x2 x3 re ot = T → W p l e (headSpec wsX7_greatestOf rmX7_greatestOf).room s m ([.ref h, .int (nI cc)] : List Value).toArray below meth c H locs 0 0 Q (F0 m 12 ls []) := by
    intro r12
    induction r12 with
    | zero =>
      intro k12 x2 x3 re ot H locs ls hi12_0 hi12_1 hP hD hS hl hF
      rw [F_X7_greatestOf_12] at hF
      refine lv_iload hx hb dX7_greatestOf_12 (lv_at hl 4 rfl) ?_
      refine lv_aload_n hx hb dX7_greatestOf_14 rfl (lv_at hl 0 rfl) ?_
      refine va_get (D := D) (ci := 5) (v := .ref a0) (C := RX7) (T := TX7) (N := 16) hx hb hts hinX7 hown hK.1 hP 0 rfl rfl 0 (by decide) hf7 (fun _ h9 => h9) rfl dX7_greatestOf_15 ?_
      refine lv_iload_n hx hb dX7_greatestOf_18 rfl (lv_at hl 1 rfl) ?_
      refine w_ald hx hb hK hP 1 0 rfl rfl (cc) rfl (by omega) (by omega) dX7_greatestOf_19 ?_
      refine lv_aload_n hx hb dX7_greatestOf_20 rfl (lv_at hl 0 rfl) ?_
      refine va_get (D := D) (ci := 5) (v := .int (nI fn)) (C := RX7) (T := TX7) (N := 16) hx hb hts hinX7 hown hK.1 hP 0 rfl rfl 2 (by decide) hf16 (fun _ h9 => h9) rfl dX7_greatestOf_21 ?_
      refine lv_iadd hx hb dX7_greatestOf_24 ?_
      refine lv_iconst (v := 1) hx hb dX7_greatestOf_25 (by decide) ?_
      refine lv_isub hx hb dX7_greatestOf_26 ?_
      refine lv_icmp_ge (tgt := 57) hx hb dX7_greatestOf_27 (by decide) (fun c27 => ?_) (fun c27 => ?_)
      · skip
        refine lv_iload_n hx hb dX7_greatestOf_57 rfl (lv_at hl 2 rfl) ?_
        subst hF
        subst hQ
        exact W.iret (v := x2) hx hb hr (fun u9 ht hW => ⟨⟨_, (), rfl, rfl, by rw [← ht] at hP; exact hP⟩, hS.F ht⟩) hS.2.2 dX7_greatestOf_58
      · exact False.elim (c27 (by rw [addm1 (by omega)]; exact nI_le (by omega) (by omega)))
    | succ r12 ih12 =>
      intro k12 x2 x3 re ot H locs ls hi12_0 hi12_1 hP hD hS hl hF
      rw [F_X7_greatestOf_12] at hF
      refine lv_iload hx hb dX7_greatestOf_12 (lv_at hl 4 rfl) ?_
      refine lv_aload_n hx hb dX7_greatestOf_14 rfl (lv_at hl 0 rfl) ?_
      refine va_get (D := D) (ci := 5) (v := .ref a0) (C := RX7) (T := TX7) (N := 16) hx hb hts hinX7 hown hK.1 hP 0 rfl rfl 0 (by decide) hf7 (fun _ h9 => h9) rfl dX7_greatestOf_15 ?_
      refine lv_iload_n hx hb dX7_greatestOf_18 rfl (lv_at hl 1 rfl) ?_
      refine w_ald hx hb hK hP 1 0 rfl rfl (cc) rfl (by omega) (by omega) dX7_greatestOf_19 ?_
      refine lv_aload_n hx hb dX7_greatestOf_20 rfl (lv_at hl 0 rfl) ?_
      refine va_get (D := D) (ci := 5) (v := .int (nI fn)) (C := RX7) (T := TX7) (N := 16) hx hb hts hinX7 hown hK.1 hP 0 rfl rfl 2 (by decide) hf16 (fun _ h9 => h9) rfl dX7_greatestOf_21 ?_
      refine lv_iadd hx hb dX7_greatestOf_24 ?_
      refine lv_iconst (v := 1) hx hb dX7_greatestOf_25 (by decide) ?_
      refine lv_isub hx hb dX7_greatestOf_26 ?_
      refine lv_icmp_ge (tgt := 57) hx hb dX7_greatestOf_27 (by decide) (fun c27 => ?_) (fun c27 => ?_)
      · exact False.elim ((by rw [addm1 (by omega)] at c27; exact nI_ge (by omega) (by omega) c27))
      · skip
        refine lv_aload_n hx hb dX7_greatestOf_30 rfl (lv_at hl 0 rfl) ?_
        refine lv_iload_n hx hb dX7_greatestOf_31 rfl (lv_at hl 1 rfl) ?_
        refine lv_iload hx hb dX7_greatestOf_32 (lv_at hl 4 rfl) ?_
        refine cw_i (va_runV (As := [.int (nI cc), .int (nI k12)]) (rest := []) ⟨hx, hb, hml, hown, hts⟩ (c_X7_answers l D cI H.size h a0 a1 a3 a5 a6 a8 a12 sn tu fn we rn per rea wn rw bs re ot cp ab be hh cc (nI k12) (by first | assumption | omega) (by first | assumption | omega) (by first | assumption | omega)) (cwV 2 hts gX7_greatestOf_X7_answers rfl rfl rfl (by decide +kernel) ⟨(Nat.le_of_ble_eq_true rfl), (Nat.le_of_ble_eq_true rfl)⟩) (wr_preV hP hD hK rfl (q0 := 0) rfl) rfl rfl hl.1 rfl (lv_room (Nat.le_of_ble_eq_true rfl)) dX7_greatestOf_34 ⟨Nat.zero_le _, Nat.zero_le _⟩) hP hD hS hA [0, 1, 2, 3, 4, 5, 6, 7] rfl rfl (fun H locs hP hD hS => ?_)
        have hP : va_P D vwCl [(h, .inr (5, [.ref a0, .ref a1, .int (nI fn), .ref a3, .int (nI rn), .ref a5, .ref a6, .int (nI wn), .ref a8, .int (nI bs), .int ((fX7_answers sn tu fn we cc (nI k12)).2.1), .int ((fX7_answers sn tu fn we cc (nI k12)).2.2), .ref a12, .long ab, .long be, .long hh])), (a0, .inl (cI, 6, .inl (fun i => nI (sn i)))), (a1, .inl (cI, 96, .inl tu)), (a3, .inl (cI, 24, .inl we)), (a5, .inl (cI, 4, .inl (fun i => nI (per i)))), (a6, .inl (cI, 4, .inl rea)), (a8, .inl (cI, 64, .inl rw)), (a12, .inl (cI, 16, .inl cp))] H := hP
        have hD : va_D A [(h, .inr (5, [.ref a0, .ref a1, .int (nI fn), .ref a3, .int (nI rn), .ref a5, .ref a6, .int (nI wn), .ref a8, .int (nI bs), .int ((fX7_answers sn tu fn we cc (nI k12)).2.1), .int ((fX7_answers sn tu fn we cc (nI k12)).2.2), .ref a12, .long ab, .long be, .long hh])), (a0, .inl (cI, 6, .inl (fun i => nI (sn i)))), (a1, .inl (cI, 96, .inl tu)), (a3, .inl (cI, 24, .inl we)), (a5, .inl (cI, 4, .inl (fun i => nI (per i)))), (a6, .inl (cI, 4, .inl rea)), (a8, .inl (cI, 64, .inl rw)), (a12, .inl (cI, 16, .inl cp))] := hD
        refine lv_istore (lv' := [(5, .int ((fX7_answers sn tu fn we cc (nI k12)).1)), (0, .ref h), (1, .int (nI cc)), (2, .int x2), (3, .int x3), (4, .int (nI k12))]) hx hb dX7_greatestOf_37 hl (by decide) rfl (fun ls hl => ?_)
        refine lv_iload hx hb dX7_greatestOf_39 (lv_at hl 0 rfl) ?_
        refine lv_iload_n hx hb dX7_greatestOf_41 rfl (lv_at hl 4 rfl) ?_
        refine lv_icmp_le (tgt := 51) hx hb dX7_greatestOf_42 (by decide) (fun c42 => ?_) (fun c42 => ?_)
        · rw [if_pos c42] at hF
          refine lv_iinc (v := nI (k12 + 1)) (lv' := [(4, .int (nI (k12 + 1))), (5, .int ((fX7_answers sn tu fn we cc (nI k12)).1)), (0, .ref h), (1, .int (nI cc)), (2, .int x2), (3, .int x3)]) hx hb dX7_greatestOf_51 hl (k := 5) rfl (nI_1 _) (by decide) rfl (fun ls hl => ?_)
          refine lv_goto (tgt := 12) hx hb dX7_greatestOf_54 (by decide) ?_
          exact ih12 (k12 + 1) x2 x3 ((fX7_answers sn tu fn we cc (nI k12)).2.1) ((fX7_answers sn tu fn we cc (nI k12)).2.2) H locs ls (by omega) (by omega) hP hD hS (lv_sub hl [2, 3, 4, 5, 0] rfl) hF
        · rw [if_neg c42] at hF
          refine lv_iload hx hb dX7_greatestOf_45 (lv_at hl 0 rfl) ?_
          refine lv_istore_n (lv' := [(3, .int ((fX7_answers sn tu fn we cc (nI k12)).1)), (5, .int ((fX7_answers sn tu fn we cc (nI k12)).1)), (0, .ref h), (1, .int (nI cc)), (2, .int x2), (4, .int (nI k12))]) hx hb dX7_greatestOf_47 rfl hl (by decide) rfl (fun ls hl => ?_)
          refine lv_iload hx hb dX7_greatestOf_48 (lv_at hl 5 rfl) ?_
          refine lv_istore_n (lv' := [(2, .int (nI k12)), (3, .int ((fX7_answers sn tu fn we cc (nI k12)).1)), (5, .int ((fX7_answers sn tu fn we cc (nI k12)).1)), (0, .ref h), (1, .int (nI cc)), (4, .int (nI k12))]) hx hb dX7_greatestOf_50 rfl hl (by decide) rfl (fun ls hl => ?_)
          refine lv_iinc (v := nI (k12 + 1)) (lv' := [(4, .int (nI (k12 + 1))), (2, .int (nI k12)), (3, .int ((fX7_answers sn tu fn we cc (nI k12)).1)), (5, .int ((fX7_answers sn tu fn we cc (nI k12)).1)), (0, .ref h), (1, .int (nI cc))]) hx hb dX7_greatestOf_51 hl (k := 5) rfl (nI_1 _) (by decide) rfl (fun ls hl => ?_)
          refine lv_goto (tgt := 12) hx hb dX7_greatestOf_54 (by decide) ?_
          exact ih12 (k12 + 1) (nI k12) ((fX7_answers sn tu fn we cc (nI k12)).1) ((fX7_answers sn tu fn we cc (nI k12)).2.1) ((fX7_answers sn tu fn we cc (nI k12)).2.2) H locs ls (by omega) (by omega) hP hD hS (lv_sub hl [4, 5, 1, 2, 0] rfl) hF
  exact lp12 ((sn cc + fn - 1) - 1) 1 0 ((fX7_answers sn tu fn we cc 0).1) ((fX7_answers sn tu fn we cc 0).2.1) ((fX7_answers sn tu fn we cc 0).2.2) H _ ls rfl (by omega) hP hD hS (lv_sub hl [3, 4, 2, 1, 0] rfl) hF
def fX7_greatest (sn : Nat → Nat) (tu : Nat → Int32) (fn : Nat) (we : Nat → Int32) (re : Int32) (ot : Int32) (xc : Int32) : Int32 × Int32 × Int32 := (if (fX7_isSign xc) = 0 then ((-101), re, ot) else ((fX7_greatestOf sn tu fn we re ot (xc.toNatClampNeg)).1, (fX7_greatestOf sn tu fn we re ot (xc.toNatClampNeg)).2.1, (fX7_greatestOf sn tu fn we re ot (xc.toNatClampNeg)).2.2))
abbrev rmX7_greatest : Room := { frames := 3, cells := 0, slots := 0, locals := 70 }
set_option maxHeartbeats 4000000 in
set_option maxRecDepth 100000 in
theorem c_X7_greatest (l : Launch) (D : va_G) (cI : ClassId) (sz : Nat) (h : Nat) (a0 : Nat) (a1 : Nat) (a3 : Nat) (a5 : Nat) (a6 : Nat) (a8 : Nat) (a12 : Nat) (sn : Nat → Nat) (tu : Nat → Int32) (fn : Nat) (we : Nat → Int32) (rn : Nat) (per : Nat → Nat) (rea : Nat → Int32) (wn : Nat) (rw : Nat → Int32) (bs : Nat) (re : Int32) (ot : Int32) (cp : Nat → Int32) (ab : Int64) (be : Int64) (hh : Int64) (xc : Int32) (hsn : ∀ c, c < 6 → 1 ≤ sn c ∧ sn c ≤ 16) (hfn : 1 ≤ fn ∧ fn ≤ 24) : Met l yX7_greatest wsX7_greatest rmX7_greatest (va_Pc [.ref h, .int xc] (wrP D [(cI, .int)] [(h, .inr (5, [.ref a0, .ref a1, .int (nI fn), .ref a3, .int (nI rn), .ref a5, .ref a6, .int (nI wn), .ref a8, .int (nI bs), .int re, .int ot, .ref a12, .long ab, .long be, .long hh])), (a0, .inl (cI, 6, .inl (fun i => nI (sn i)))), (a1, .inl (cI, 96, .inl tu)), (a3, .inl (cI, 24, .inl we)), (a5, .inl (cI, 4, .inl (fun i => nI (per i)))), (a6, .inl (cI, 4, .inl rea)), (a8, .inl (cI, 64, .inl rw)), (a12, .inl (cI, 16, .inl cp))] sz)) (va_Qi (fun r9 (_ : Unit) => r9 = (fX7_greatest sn tu fn we re ot xc).1) (fun _ u9 => va_P D vwCl [(h, .inr (5, [.ref a0, .ref a1, .int (nI fn), .ref a3, .int (nI rn), .ref a5, .ref a6, .int (nI wn), .ref a8, .int (nI bs), .int ((fX7_greatest sn tu fn we re ot xc).2.1), .int ((fX7_greatest sn tu fn we re ot xc).2.2), .ref a12, .long ab, .long be, .long hh])), (a0, .inl (cI, 6, .inl (fun i => nI (sn i)))), (a1, .inl (cI, 96, .inl tu)), (a3, .inl (cI, 24, .inl we)), (a5, .inl (cI, 4, .inl (fun i => nI (per i)))), (a6, .inl (cI, 4, .inl rea)), (a8, .inl (cI, 64, .inl rw)), (a12, .inl (cI, 16, .inl cp))] u9.heap) (va_A [(h, .inr (5, [.ref a0, .ref a1, .int (nI fn), .ref a3, .int (nI rn), .ref a5, .ref a6, .int (nI wn), .ref a8, .int (nI bs), .int re, .int ot, .ref a12, .long ab, .long be, .long hh])), (a0, .inl (cI, 6, .inl (fun i => nI (sn i)))), (a1, .inl (cI, 96, .inl tu)), (a3, .inl (cI, 24, .inl we)), (a5, .inl (cI, 4, .inl (fun i => nI (per i)))), (a6, .inl (cI, 4, .inl rea)), (a8, .inl (cI, 64, .inl rw)), (a12, .inl (cI, 16, .inl cp))] sz)) 0 0 (va_A [(h, .inr (5, [.ref a0, .ref a1, .int (nI fn), .ref a3, .int (nI rn), .ref a5, .ref a6, .int (nI wn), .ref a8, .int (nI bs), .int re, .int ot, .ref a12, .long ab, .long be, .long hh])), (a0, .inl (cI, 6, .inl (fun i => nI (sn i)))), (a1, .inl (cI, 96, .inl tu)), (a3, .inl (cI, 24, .inl we)), (a5, .inl (cI, 4, .inl (fun i => nI (per i)))), (a6, .inl (cI, 4, .inl rea)), (a8, .inl (cI, 64, .inl rw)), (a12, .inl (cI, 16, .inl cp))] sz) := by
  generalize hF : fX7_greatest sn tu fn we re ot xc = T
  refine Met.ofW (cc := cX7_greatest) (maxL := 2) (ret := (some .int)) (by decide) rfl ?_
  intro p e s m args below meth c s₁ B hml hv
  obtain ⟨rfl, hsz, hP, hK, hD0⟩ := hv
  have hx := B.exec
  have hb := B.bytes
  have hr := B.returns
  have hts := atoms_spec (ws := wsX7_greatest) B.pre
  have hown : s.vm.findClass RX7 = some m.cls := findClass_of_methodNamed B.named
  have hlocks := B.notSynchronized
  subst hsz
  have hD := hD0.self (sz := s.heap.size)
  generalize hAe : va_A [(h, .inr (5, [.ref a0, .ref a1, .int (nI fn), .ref a3, .int (nI rn), .ref a5, .ref a6, .int (nI wn), .ref a8, .int (nI bs), .int re, .int ot, .ref a12, .long ab, .long be, .long hh])), (a0, .inl (cI, 6, .inl (fun i => nI (sn i)))), (a1, .inl (cI, 96, .inl tu)), (a3, .inl (cI, 24, .inl we)), (a5, .inl (cI, 4, .inl (fun i => nI (per i)))), (a6, .inl (cI, 4, .inl rea)), (a8, .inl (cI, 64, .inl rw)), (a12, .inl (cI, 16, .inl cp))] s.heap.size = A at hD ⊢
  have hA : ∀ q : Nat, s.heap.size ≤ q → A q := fun q h => by rw [← hAe]; exact Or.inr h
  have hS : va_S A s.heap s.heap [] := va_S.rf
  have hP : va_P D vwCl [(h, .inr (5, [.ref a0, .ref a1, .int (nI fn), .ref a3, .int (nI rn), .ref a5, .ref a6, .int (nI wn), .ref a8, .int (nI bs), .int re, .int ot, .ref a12, .long ab, .long be, .long hh])), (a0, .inl (cI, 6, .inl (fun i => nI (sn i)))), (a1, .inl (cI, 96, .inl tu)), (a3, .inl (cI, 24, .inl we)), (a5, .inl (cI, 4, .inl (fun i => nI (per i)))), (a6, .inl (cI, 4, .inl rea)), (a8, .inl (cI, 64, .inl rw)), (a12, .inl (cI, 16, .inl cp))] s.heap := hP
  have hl := lv_entry ([.ref h, .int xc]) (n := 2) (Nat.le_of_ble_eq_true rfl)
  rw [lg_entry_eq]
  generalize (lg_sl ([.ref h, .int xc]) ++ List.replicate (2 - (lg_sl ([.ref h, .int xc])).length) Slot.unset).toArray = ls at hl ⊢
  refine w_Q (fun Q hQ => ?_)
  have hl : lv_has ls 2 [(0, .ref h), (1, .int xc)] := hl
  rw [fX7_greatest] at hF
  refine lv_iload_n hx hb dX7_greatest_0 rfl (lv_at hl 1 rfl) ?_
  have hPc := hP.sub (ws' := []) [] rfl
  refine cs_i (va_runS (As := [.int xc]) (rest := []) ⟨hx, hb, hml, hown, hts⟩ (c_X7_isSign l D cI xc ) (va_cwS 1 hts gX7_greatest_X7_isSign rfl rfl rfl (by decide +kernel) ⟨(Nat.le_of_ble_eq_true rfl), (Nat.le_of_ble_eq_true rfl)⟩) (ro_pre hPc hK) rfl rfl hl.1 rfl (lv_room (Nat.le_of_ble_eq_true rfl)) dX7_greatest_1 ⟨Nat.zero_le _, Nat.zero_le _⟩) ?_
  refine lv_if_eq (tgt := 15) hx hb dX7_greatest_4 (by decide) (fun c4 => ?_) (fun c4 => ?_)
  · rw [if_pos c4] at hF
    refine lv_bipush (v := (-101)) hx hb dX7_greatest_15 (by decide) ?_
    subst hF
    subst hQ
    exact W.iret (v := (-101)) hx hb hr (fun u9 ht hW => ⟨⟨_, (), rfl, rfl, by rw [← ht] at hP; exact hP⟩, hS.F ht⟩) hS.2.2 dX7_greatest_17
  · rw [if_neg c4] at hF
    obtain ⟨cn, hcn, rfl⟩ := sign_nat c4
    have e_cn : (nI cn).toNatClampNeg = cn := nI_clamp (by omega)
    try simp only [e_cn] at hF
    refine lv_aload_n hx hb dX7_greatest_7 rfl (lv_at hl 0 rfl) ?_
    refine lv_iload_n hx hb dX7_greatest_8 rfl (lv_at hl 1 rfl) ?_
    refine cw_i (va_runV (As := [.int (nI cn)]) (rest := []) ⟨hx, hb, hml, hown, hts⟩ (c_X7_greatestOf l D cI s.heap.size h a0 a1 a3 a5 a6 a8 a12 sn tu fn we rn per rea wn rw bs re ot cp ab be hh cn (by first | assumption | omega) (by first | assumption | omega) (by first | assumption | omega)) (cwV 1 hts gX7_greatest_X7_greatestOf rfl rfl rfl (by decide +kernel) ⟨(Nat.le_of_ble_eq_true rfl), (Nat.le_of_ble_eq_true rfl)⟩) (wr_preV hP hD hK rfl (q0 := 0) rfl) rfl rfl hl.1 rfl (lv_room (Nat.le_of_ble_eq_true rfl)) dX7_greatest_9 ⟨Nat.zero_le _, Nat.zero_le _⟩) hP hD hS hA [0, 1, 2, 3, 4, 5, 6, 7] rfl rfl (fun H locs hP hD hS => ?_)
    have hP : va_P D vwCl [(h, .inr (5, [.ref a0, .ref a1, .int (nI fn), .ref a3, .int (nI rn), .ref a5, .ref a6, .int (nI wn), .ref a8, .int (nI bs), .int ((fX7_greatestOf sn tu fn we re ot cn).2.1), .int ((fX7_greatestOf sn tu fn we re ot cn).2.2), .ref a12, .long ab, .long be, .long hh])), (a0, .inl (cI, 6, .inl (fun i => nI (sn i)))), (a1, .inl (cI, 96, .inl tu)), (a3, .inl (cI, 24, .inl we)), (a5, .inl (cI, 4, .inl (fun i => nI (per i)))), (a6, .inl (cI, 4, .inl rea)), (a8, .inl (cI, 64, .inl rw)), (a12, .inl (cI, 16, .inl cp))] H := hP
    have hD : va_D A [(h, .inr (5, [.ref a0, .ref a1, .int (nI fn), .ref a3, .int (nI rn), .ref a5, .ref a6, .int (nI wn), .ref a8, .int (nI bs), .int ((fX7_greatestOf sn tu fn we re ot cn).2.1), .int ((fX7_greatestOf sn tu fn we re ot cn).2.2), .ref a12, .long ab, .long be, .long hh])), (a0, .inl (cI, 6, .inl (fun i => nI (sn i)))), (a1, .inl (cI, 96, .inl tu)), (a3, .inl (cI, 24, .inl we)), (a5, .inl (cI, 4, .inl (fun i => nI (per i)))), (a6, .inl (cI, 4, .inl rea)), (a8, .inl (cI, 64, .inl rw)), (a12, .inl (cI, 16, .inl cp))] := hD
    refine lv_goto (tgt := 17) hx hb dX7_greatest_12 (by decide) ?_
    subst hF
    subst hQ
    exact W.iret (v := (fX7_greatestOf sn tu fn we re ot cn).1) hx hb hr (fun u9 ht hW => ⟨⟨_, (), rfl, rfl, by rw [← ht] at hP; exact hP⟩, hS.F ht⟩) hS.2.2 dX7_greatest_17
def F_X7_clear_29 (sn : Nat → Nat) (tu : Nat → Int32) (fn : Nat) (we : Nat → Int32) (cn : Nat) : Nat → Nat → Int32 → Int32 → Int32 → (Int32 × Int32 × Int32)
  | 0, k29, x4, re, ot => (if ((fX7_answers sn tu fn we cn ((fX7_greatestOf sn tu fn we re ot cn).1)).1) = 0 then (0, re, ot) else (if x4 = 0 then (1000000, re, ot) else ((10 * ((fX7_answers sn tu fn we cn ((fX7_greatestOf sn tu fn we re ot cn).1)).1)) / x4, re, ot)))
  | r29 + 1, k29, x4, re, ot => (if (nI k29) = ((fX7_greatestOf sn tu fn we re ot cn).1) then (if (0 : Int32) ≤ x4 then F_X7_clear_29 sn tu fn we cn r29 (k29 + 1) x4 re ot else F_X7_clear_29 sn tu fn we cn r29 (k29 + 1) 0 re ot) else (if ((fX7_answers sn tu fn we cn (nI k29)).1) ≤ x4 then F_X7_clear_29 sn tu fn we cn r29 (k29 + 1) x4 ((fX7_answers sn tu fn we cn (nI k29)).2.1) ((fX7_answers sn tu fn we cn (nI k29)).2.2) else F_X7_clear_29 sn tu fn we cn r29 (k29 + 1) ((fX7_answers sn tu fn we cn (nI k29)).1) ((fX7_answers sn tu fn we cn (nI k29)).2.1) ((fX7_answers sn tu fn we cn (nI k29)).2.2)))
def fX7_clear (sn : Nat → Nat) (tu : Nat → Int32) (fn : Nat) (we : Nat → Int32) (re : Int32) (ot : Int32) (xc : Int32) : Int32 × Int32 × Int32 := (if (fX7_isSign xc) = 0 then ((-101), re, ot) else F_X7_clear_29 sn tu fn we (xc.toNatClampNeg) ((sn (xc.toNatClampNeg) + fn - 1) - 0) 0 0 ((fX7_answers sn tu fn we (xc.toNatClampNeg) ((fX7_greatestOf sn tu fn we re ot (xc.toNatClampNeg)).1)).2.1) ((fX7_answers sn tu fn we (xc.toNatClampNeg) ((fX7_greatestOf sn tu fn we re ot (xc.toNatClampNeg)).1)).2.2))
abbrev rmX7_clear : Room := { frames := 3, cells := 0, slots := 0, locals := 70 }
set_option maxHeartbeats 4000000 in
set_option maxRecDepth 100000 in
theorem c_X7_clear (l : Launch) (D : va_G) (cI : ClassId) (sz : Nat) (h : Nat) (a0 : Nat) (a1 : Nat) (a3 : Nat) (a5 : Nat) (a6 : Nat) (a8 : Nat) (a12 : Nat) (sn : Nat → Nat) (tu : Nat → Int32) (fn : Nat) (we : Nat → Int32) (rn : Nat) (per : Nat → Nat) (rea : Nat → Int32) (wn : Nat) (rw : Nat → Int32) (bs : Nat) (re : Int32) (ot : Int32) (cp : Nat → Int32) (ab : Int64) (be : Int64) (hh : Int64) (xc : Int32) (hsn : ∀ c, c < 6 → 1 ≤ sn c ∧ sn c ≤ 16) (hfn : 1 ≤ fn ∧ fn ≤ 24) : Met l yX7_clear wsX7_clear rmX7_clear (va_Pc [.ref h, .int xc] (wrP D [(cI, .int)] [(h, .inr (5, [.ref a0, .ref a1, .int (nI fn), .ref a3, .int (nI rn), .ref a5, .ref a6, .int (nI wn), .ref a8, .int (nI bs), .int re, .int ot, .ref a12, .long ab, .long be, .long hh])), (a0, .inl (cI, 6, .inl (fun i => nI (sn i)))), (a1, .inl (cI, 96, .inl tu)), (a3, .inl (cI, 24, .inl we)), (a5, .inl (cI, 4, .inl (fun i => nI (per i)))), (a6, .inl (cI, 4, .inl rea)), (a8, .inl (cI, 64, .inl rw)), (a12, .inl (cI, 16, .inl cp))] sz)) (va_Qi (fun r9 (_ : Unit) => r9 = (fX7_clear sn tu fn we re ot xc).1) (fun _ u9 => va_P D vwCl [(h, .inr (5, [.ref a0, .ref a1, .int (nI fn), .ref a3, .int (nI rn), .ref a5, .ref a6, .int (nI wn), .ref a8, .int (nI bs), .int ((fX7_clear sn tu fn we re ot xc).2.1), .int ((fX7_clear sn tu fn we re ot xc).2.2), .ref a12, .long ab, .long be, .long hh])), (a0, .inl (cI, 6, .inl (fun i => nI (sn i)))), (a1, .inl (cI, 96, .inl tu)), (a3, .inl (cI, 24, .inl we)), (a5, .inl (cI, 4, .inl (fun i => nI (per i)))), (a6, .inl (cI, 4, .inl rea)), (a8, .inl (cI, 64, .inl rw)), (a12, .inl (cI, 16, .inl cp))] u9.heap) (va_A [(h, .inr (5, [.ref a0, .ref a1, .int (nI fn), .ref a3, .int (nI rn), .ref a5, .ref a6, .int (nI wn), .ref a8, .int (nI bs), .int re, .int ot, .ref a12, .long ab, .long be, .long hh])), (a0, .inl (cI, 6, .inl (fun i => nI (sn i)))), (a1, .inl (cI, 96, .inl tu)), (a3, .inl (cI, 24, .inl we)), (a5, .inl (cI, 4, .inl (fun i => nI (per i)))), (a6, .inl (cI, 4, .inl rea)), (a8, .inl (cI, 64, .inl rw)), (a12, .inl (cI, 16, .inl cp))] sz)) 0 0 (va_A [(h, .inr (5, [.ref a0, .ref a1, .int (nI fn), .ref a3, .int (nI rn), .ref a5, .ref a6, .int (nI wn), .ref a8, .int (nI bs), .int re, .int ot, .ref a12, .long ab, .long be, .long hh])), (a0, .inl (cI, 6, .inl (fun i => nI (sn i)))), (a1, .inl (cI, 96, .inl tu)), (a3, .inl (cI, 24, .inl we)), (a5, .inl (cI, 4, .inl (fun i => nI (per i)))), (a6, .inl (cI, 4, .inl rea)), (a8, .inl (cI, 64, .inl rw)), (a12, .inl (cI, 16, .inl cp))] sz) := by
  generalize hF : fX7_clear sn tu fn we re ot xc = T
  refine Met.ofW (cc := cX7_clear) (maxL := 7) (ret := (some .int)) (by decide) rfl ?_
  intro p e s m args below meth c s₁ B hml hv
  obtain ⟨rfl, hsz, hP, hK, hD0⟩ := hv
  have hx := B.exec
  have hb := B.bytes
  have hr := B.returns
  have hts := atoms_spec (ws := wsX7_clear) B.pre
  have hown : s.vm.findClass RX7 = some m.cls := findClass_of_methodNamed B.named
  have hlocks := B.notSynchronized
  have hinX7 : ∀ w ∈ u_ws RX7 TX7 16, w ∈ wsX7_clear := by decide +kernel
  have hf7 := hts (.fieldLink RX7 7 "PulseSignsModel" "sizes" "[I") (by decide +kernel)
  have hf16 := hts (.fieldLink RX7 16 "PulseSignsModel" "filterSize" "I") (by decide +kernel)
  have hcst83 := hts (.constant RX7 83 1000000) (by decide +kernel)
  subst hsz
  have hD := hD0.self (sz := s.heap.size)
  generalize hAe : va_A [(h, .inr (5, [.ref a0, .ref a1, .int (nI fn), .ref a3, .int (nI rn), .ref a5, .ref a6, .int (nI wn), .ref a8, .int (nI bs), .int re, .int ot, .ref a12, .long ab, .long be, .long hh])), (a0, .inl (cI, 6, .inl (fun i => nI (sn i)))), (a1, .inl (cI, 96, .inl tu)), (a3, .inl (cI, 24, .inl we)), (a5, .inl (cI, 4, .inl (fun i => nI (per i)))), (a6, .inl (cI, 4, .inl rea)), (a8, .inl (cI, 64, .inl rw)), (a12, .inl (cI, 16, .inl cp))] s.heap.size = A at hD ⊢
  have hA : ∀ q : Nat, s.heap.size ≤ q → A q := fun q h => by rw [← hAe]; exact Or.inr h
  have hS : va_S A s.heap s.heap [] := va_S.rf
  have hP : va_P D vwCl [(h, .inr (5, [.ref a0, .ref a1, .int (nI fn), .ref a3, .int (nI rn), .ref a5, .ref a6, .int (nI wn), .ref a8, .int (nI bs), .int re, .int ot, .ref a12, .long ab, .long be, .long hh])), (a0, .inl (cI, 6, .inl (fun i => nI (sn i)))), (a1, .inl (cI, 96, .inl tu)), (a3, .inl (cI, 24, .inl we)), (a5, .inl (cI, 4, .inl (fun i => nI (per i)))), (a6, .inl (cI, 4, .inl rea)), (a8, .inl (cI, 64, .inl rw)), (a12, .inl (cI, 16, .inl cp))] s.heap := hP
  have hl := lv_entry ([.ref h, .int xc]) (n := 7) (Nat.le_of_ble_eq_true rfl)
  rw [lg_entry_eq]
  generalize (lg_sl ([.ref h, .int xc]) ++ List.replicate (7 - (lg_sl ([.ref h, .int xc])).length) Slot.unset).toArray = ls at hl ⊢
  refine w_Q (fun Q hQ => ?_)
  have hl : lv_has ls 7 [(0, .ref h), (1, .int xc)] := hl
  rw [fX7_clear] at hF
  refine lv_iload_n hx hb dX7_clear_0 rfl (lv_at hl 1 rfl) ?_
  have hPc := hP.sub (ws' := []) [] rfl
  refine cs_i (va_runS (As := [.int xc]) (rest := []) ⟨hx, hb, hml, hown, hts⟩ (c_X7_isSign l D cI xc ) (va_cwS 1 hts gX7_clear_X7_isSign rfl rfl rfl (by decide +kernel) ⟨(Nat.le_of_ble_eq_true rfl), (Nat.le_of_ble_eq_true rfl)⟩) (ro_pre hPc hK) rfl rfl hl.1 rfl (lv_room (Nat.le_of_ble_eq_true rfl)) dX7_clear_1 ⟨Nat.zero_le _, Nat.zero_le _⟩) ?_
  refine lv_if_ne (tgt := 10) hx hb dX7_clear_4 (by decide) (fun c4 => ?_) (fun c4 => ?_)
  · rw [if_neg c4] at hF
    obtain ⟨cn, hcn, rfl⟩ := sign_nat c4
    have h16 := hsn cn (by omega)
    have e_cn : (nI cn).toNatClampNeg = cn := nI_clamp (by omega)
    try simp only [e_cn] at hF
    refine lv_aload_n hx hb dX7_clear_10 rfl (lv_at hl 0 rfl) ?_
    refine lv_iload_n hx hb dX7_clear_11 rfl (lv_at hl 1 rfl) ?_
    refine cw_i (va_runV (As := [.int (nI cn)]) (rest := []) ⟨hx, hb, hml, hown, hts⟩ (c_X7_greatestOf l D cI s.heap.size h a0 a1 a3 a5 a6 a8 a12 sn tu fn we rn per rea wn rw bs re ot cp ab be hh cn (by first | assumption | omega) (by first | assumption | omega) (by first | assumption | omega)) (cwV 1 hts gX7_clear_X7_greatestOf rfl rfl rfl (by decide +kernel) ⟨(Nat.le_of_ble_eq_true rfl), (Nat.le_of_ble_eq_true rfl)⟩) (wr_preV hP hD hK rfl (q0 := 0) rfl) rfl rfl hl.1 rfl (lv_room (Nat.le_of_ble_eq_true rfl)) dX7_clear_12 ⟨Nat.zero_le _, Nat.zero_le _⟩) hP hD hS hA [0, 1, 2, 3, 4, 5, 6, 7] rfl rfl (fun H locs hP hD hS => ?_)
    have hP : va_P D vwCl [(h, .inr (5, [.ref a0, .ref a1, .int (nI fn), .ref a3, .int (nI rn), .ref a5, .ref a6, .int (nI wn), .ref a8, .int (nI bs), .int ((fX7_greatestOf sn tu fn we re ot cn).2.1), .int ((fX7_greatestOf sn tu fn we re ot cn).2.2), .ref a12, .long ab, .long be, .long hh])), (a0, .inl (cI, 6, .inl (fun i => nI (sn i)))), (a1, .inl (cI, 96, .inl tu)), (a3, .inl (cI, 24, .inl we)), (a5, .inl (cI, 4, .inl (fun i => nI (per i)))), (a6, .inl (cI, 4, .inl rea)), (a8, .inl (cI, 64, .inl rw)), (a12, .inl (cI, 16, .inl cp))] H := hP
    have hD : va_D A [(h, .inr (5, [.ref a0, .ref a1, .int (nI fn), .ref a3, .int (nI rn), .ref a5, .ref a6, .int (nI wn), .ref a8, .int (nI bs), .int ((fX7_greatestOf sn tu fn we re ot cn).2.1), .int ((fX7_greatestOf sn tu fn we re ot cn).2.2), .ref a12, .long ab, .long be, .long hh])), (a0, .inl (cI, 6, .inl (fun i => nI (sn i)))), (a1, .inl (cI, 96, .inl tu)), (a3, .inl (cI, 24, .inl we)), (a5, .inl (cI, 4, .inl (fun i => nI (per i)))), (a6, .inl (cI, 4, .inl rea)), (a8, .inl (cI, 64, .inl rw)), (a12, .inl (cI, 16, .inl cp))] := hD
    refine lv_istore_n (lv' := [(2, .int ((fX7_greatestOf sn tu fn we re ot cn).1)), (0, .ref h), (1, .int (nI cn))]) hx hb dX7_clear_15 rfl hl (by decide) rfl (fun ls hl => ?_)
    refine lv_aload_n hx hb dX7_clear_16 rfl (lv_at hl 1 rfl) ?_
    refine lv_iload_n hx hb dX7_clear_17 rfl (lv_at hl 2 rfl) ?_
    refine lv_iload_n hx hb dX7_clear_18 rfl (lv_at hl 0 rfl) ?_
    refine cw_i (va_runV (As := [.int (nI cn), .int ((fX7_greatestOf sn tu fn we re ot cn).1)]) (rest := []) ⟨hx, hb, hml, hown, hts⟩ (c_X7_answers l D cI H.size h a0 a1 a3 a5 a6 a8 a12 sn tu fn we rn per rea wn rw bs ((fX7_greatestOf sn tu fn we re ot cn).2.1) ((fX7_greatestOf sn tu fn we re ot cn).2.2) cp ab be hh cn ((fX7_greatestOf sn tu fn we re ot cn).1) (by first | assumption | omega) (by first | assumption | omega) (by first | assumption | omega)) (cwV 2 hts gX7_clear_X7_answers rfl rfl rfl (by decide +kernel) ⟨(Nat.le_of_ble_eq_true rfl), (Nat.le_of_ble_eq_true rfl)⟩) (wr_preV hP hD hK rfl (q0 := 0) rfl) rfl rfl hl.1 rfl (lv_room (Nat.le_of_ble_eq_true rfl)) dX7_clear_19 ⟨Nat.zero_le _, Nat.zero_le _⟩) hP hD hS hA [0, 1, 2, 3, 4, 5, 6, 7] rfl rfl (fun H locs hP hD hS => ?_)
    have hP : va_P D vwCl [(h, .inr (5, [.ref a0, .ref a1, .int (nI fn), .ref a3, .int (nI rn), .ref a5, .ref a6, .int (nI wn), .ref a8, .int (nI bs), .int ((fX7_answers sn tu fn we cn ((fX7_greatestOf sn tu fn we re ot cn).1)).2.1), .int ((fX7_answers sn tu fn we cn ((fX7_greatestOf sn tu fn we re ot cn).1)).2.2), .ref a12, .long ab, .long be, .long hh])), (a0, .inl (cI, 6, .inl (fun i => nI (sn i)))), (a1, .inl (cI, 96, .inl tu)), (a3, .inl (cI, 24, .inl we)), (a5, .inl (cI, 4, .inl (fun i => nI (per i)))), (a6, .inl (cI, 4, .inl rea)), (a8, .inl (cI, 64, .inl rw)), (a12, .inl (cI, 16, .inl cp))] H := hP
    have hD : va_D A [(h, .inr (5, [.ref a0, .ref a1, .int (nI fn), .ref a3, .int (nI rn), .ref a5, .ref a6, .int (nI wn), .ref a8, .int (nI bs), .int ((fX7_answers sn tu fn we cn ((fX7_greatestOf sn tu fn we re ot cn).1)).2.1), .int ((fX7_answers sn tu fn we cn ((fX7_greatestOf sn tu fn we re ot cn).1)).2.2), .ref a12, .long ab, .long be, .long hh])), (a0, .inl (cI, 6, .inl (fun i => nI (sn i)))), (a1, .inl (cI, 96, .inl tu)), (a3, .inl (cI, 24, .inl we)), (a5, .inl (cI, 4, .inl (fun i => nI (per i)))), (a6, .inl (cI, 4, .inl rea)), (a8, .inl (cI, 64, .inl rw)), (a12, .inl (cI, 16, .inl cp))] := hD
    refine lv_istore_n (lv' := [(3, .int ((fX7_answers sn tu fn we cn ((fX7_greatestOf sn tu fn we re ot cn).1)).1)), (2, .int ((fX7_greatestOf sn tu fn we re ot cn).1)), (0, .ref h), (1, .int (nI cn))]) hx hb dX7_clear_22 rfl hl (by decide) rfl (fun ls hl => ?_)
    refine lv_iconst (v := 0) hx hb dX7_clear_23 (by decide) ?_
    refine lv_istore (lv' := [(4, .int 0), (3, .int ((fX7_answers sn tu fn we cn ((fX7_greatestOf sn tu fn we re ot cn).1)).1)), (2, .int ((fX7_greatestOf sn tu fn we re ot cn).1)), (0, .ref h), (1, .int (nI cn))]) hx hb dX7_clear_24 hl (by decide) rfl (fun ls hl => ?_)
    refine lv_iconst (v := 0) hx hb dX7_clear_26 (by decide) ?_
    refine lv_istore (lv' := [(5, .int 0), (4, .int 0), (3, .int ((fX7_answers sn tu fn we cn ((fX7_greatestOf sn tu fn we re ot cn).1)).1)), (2, .int ((fX7_greatestOf sn tu fn we re ot cn).1)), (0, .ref h), (1, .int (nI cn))]) hx hb dX7_clear_27 hl (by decide) rfl (fun ls hl => ?_)
    have lp29 : ∀ (r29 k29 : Nat) (x4 : Int32) (re : Int32) (ot : Int32) (H : Heap) (locs : List Loc) (ls : Array Slot), r29 = (sn cn + fn - 1) - k29 → k29 ≤ (sn cn + fn - 1) + 1 → va_P D vwCl [(h, .inr (5, [.ref a0, .ref a1, .int (nI fn), .ref a3, .int (nI rn), .ref a5, .ref a6, .int (nI wn), .ref a8, .int (nI bs), .int re, .int ot, .ref a12, .long ab, .long be, .long hh])), (a0, .inl (cI, 6, .inl (fun i => nI (sn i)))), (a1, .inl (cI, 96, .inl tu)), (a3, .inl (cI, 24, .inl we)), (a5, .inl (cI, 4, .inl (fun i => nI (per i)))), (a6, .inl (cI, 4, .inl rea)), (a8, .inl (cI, 64, .inl rw)), (a12, .inl (cI, 16, .inl cp))] H → va_D A [(h, .inr (5, [.ref a0, .ref a1, .int (nI fn), .ref a3, .int (nI rn), .ref a5, .ref a6, .int (nI wn), .ref a8, .int (nI bs), .int re, .int ot, .ref a12, .long ab, .long be, .long hh])), (a0, .inl (cI, 6, .inl (fun i => nI (sn i)))), (a1, .inl (cI, 96, .inl tu)), (a3, .inl (cI, 24, .inl we)), (a5, .inl (cI, 4, .inl (fun i => nI (per i)))), (a6, .inl (cI, 4, .inl rea)), (a8, .inl (cI, 64, .inl rw)), (a12, .inl (cI, 16, .inl cp))] → va_S A s.heap H locs → lv_has ls 7 [(0, .ref h), (1, .int (nI cn)), (2, .int ((fX7_greatestOf sn tu fn we re ot cn).1)), (3, .int ((fX7_answers sn tu fn we cn ((fX7_greatestOf sn tu fn we re ot cn).1)).1)), (4, .int x4), (5, .int (nI k29))] → F_X7_clear_29 sn tu fn we cn r29 k29 x4 re ot = T → W p l e (headSpec wsX7_clear rmX7_clear).room s m ([.ref h, .int (nI cn)] : List Value).toArray below meth c H locs 0 0 Q (F0 m 29 ls []) := by
      intro r29
      induction r29 with
      | zero =>
        intro k29 x4 re ot H locs ls hi29_0 hi29_1 hP hD hS hl hF
        rw [F_X7_clear_29] at hF
        refine lv_iload hx hb dX7_clear_29 (lv_at hl 5 rfl) ?_
        refine lv_aload_n hx hb dX7_clear_31 rfl (lv_at hl 0 rfl) ?_
        refine va_get (D := D) (ci := 5) (v := .ref a0) (C := RX7) (T := TX7) (N := 16) hx hb hts hinX7 hown hK.1 hP 0 rfl rfl 0 (by decide) hf7 (fun _ h9 => h9) rfl dX7_clear_32 ?_
        refine lv_iload_n hx hb dX7_clear_35 rfl (lv_at hl 1 rfl) ?_
        refine w_ald hx hb hK hP 1 0 rfl rfl (cn) rfl (by omega) (by omega) dX7_clear_36 ?_
        refine lv_aload_n hx hb dX7_clear_37 rfl (lv_at hl 0 rfl) ?_
        refine va_get (D := D) (ci := 5) (v := .int (nI fn)) (C := RX7) (T := TX7) (N := 16) hx hb hts hinX7 hown hK.1 hP 0 rfl rfl 2 (by decide) hf16 (fun _ h9 => h9) rfl dX7_clear_38 ?_
        refine lv_iadd hx hb dX7_clear_41 ?_
        refine lv_iconst (v := 1) hx hb dX7_clear_42 (by decide) ?_
        refine lv_isub hx hb dX7_clear_43 ?_
        refine lv_icmp_ge (tgt := 88) hx hb dX7_clear_44 (by decide) (fun c44 => ?_) (fun c44 => ?_)
        · skip
          refine lv_iload_n hx hb dX7_clear_88 rfl (lv_at hl 3 rfl) ?_
          refine lv_if_ne (tgt := 96) hx hb dX7_clear_89 (by decide) (fun c89 => ?_) (fun c89 => ?_)
          · rw [if_neg c89] at hF
            refine lv_iload hx hb dX7_clear_96 (lv_at hl 4 rfl) ?_
            refine lv_if_ne (tgt := 106) hx hb dX7_clear_98 (by decide) (fun c98 => ?_) (fun c98 => ?_)
            · rw [if_neg c98] at hF
              refine lv_bipush (v := 10) hx hb dX7_clear_106 (by decide) ?_
              refine lv_iload_n hx hb dX7_clear_108 rfl (lv_at hl 3 rfl) ?_
              refine lv_imul hx hb dX7_clear_109 ?_
              refine lv_iload hx hb dX7_clear_110 (lv_at hl 4 rfl) ?_
              refine lv_idiv hx hb dX7_clear_112 c98 ?_
              subst hF
              subst hQ
              exact W.iret (v := (10 * ((fX7_answers sn tu fn we cn ((fX7_greatestOf sn tu fn we re ot cn).1)).1)) / x4) hx hb hr (fun u9 ht hW => ⟨⟨_, (), rfl, rfl, by rw [← ht] at hP; exact hP⟩, hS.F ht⟩) hS.2.2 dX7_clear_113
            · rw [if_pos c98] at hF
              refine lv_ldc (v := 1000000) hx hb hown hcst83 dX7_clear_101 ?_
              refine lv_goto (tgt := 113) hx hb dX7_clear_103 (by decide) ?_
              subst hF
              subst hQ
              exact W.iret (v := 1000000) hx hb hr (fun u9 ht hW => ⟨⟨_, (), rfl, rfl, by rw [← ht] at hP; exact hP⟩, hS.F ht⟩) hS.2.2 dX7_clear_113
          · rw [if_pos c89] at hF
            refine lv_iconst (v := 0) hx hb dX7_clear_92 (by decide) ?_
            refine lv_goto (tgt := 113) hx hb dX7_clear_93 (by decide) ?_
            subst hF
            subst hQ
            exact W.iret (v := 0) hx hb hr (fun u9 ht hW => ⟨⟨_, (), rfl, rfl, by rw [← ht] at hP; exact hP⟩, hS.F ht⟩) hS.2.2 dX7_clear_113
        · exact False.elim (c44 (by rw [addm1 (by omega)]; exact nI_le (by omega) (by omega)))
      | succ r29 ih29 =>
        intro k29 x4 re ot H locs ls hi29_0 hi29_1 hP hD hS hl hF
        rw [F_X7_clear_29] at hF
        refine lv_iload hx hb dX7_clear_29 (lv_at hl 5 rfl) ?_
        refine lv_aload_n hx hb dX7_clear_31 rfl (lv_at hl 0 rfl) ?_
        refine va_get (D := D) (ci := 5) (v := .ref a0) (C := RX7) (T := TX7) (N := 16) hx hb hts hinX7 hown hK.1 hP 0 rfl rfl 0 (by decide) hf7 (fun _ h9 => h9) rfl dX7_clear_32 ?_
        refine lv_iload_n hx hb dX7_clear_35 rfl (lv_at hl 1 rfl) ?_
        refine w_ald hx hb hK hP 1 0 rfl rfl (cn) rfl (by omega) (by omega) dX7_clear_36 ?_
        refine lv_aload_n hx hb dX7_clear_37 rfl (lv_at hl 0 rfl) ?_
        refine va_get (D := D) (ci := 5) (v := .int (nI fn)) (C := RX7) (T := TX7) (N := 16) hx hb hts hinX7 hown hK.1 hP 0 rfl rfl 2 (by decide) hf16 (fun _ h9 => h9) rfl dX7_clear_38 ?_
        refine lv_iadd hx hb dX7_clear_41 ?_
        refine lv_iconst (v := 1) hx hb dX7_clear_42 (by decide) ?_
        refine lv_isub hx hb dX7_clear_43 ?_
        refine lv_icmp_ge (tgt := 88) hx hb dX7_clear_44 (by decide) (fun c44 => ?_) (fun c44 => ?_)
        · exact False.elim ((by rw [addm1 (by omega)] at c44; exact nI_ge (by omega) (by omega) c44))
        · skip
          refine lv_iload hx hb dX7_clear_47 (lv_at hl 5 rfl) ?_
          refine lv_iload_n hx hb dX7_clear_49 rfl (lv_at hl 2 rfl) ?_
          refine lv_icmp_ne (tgt := 57) hx hb dX7_clear_50 (by decide) (fun c50 => ?_) (fun c50 => ?_)
          · rw [if_neg c50] at hF
            refine lv_aload_n hx hb dX7_clear_57 rfl (lv_at hl 0 rfl) ?_
            refine lv_iload_n hx hb dX7_clear_58 rfl (lv_at hl 1 rfl) ?_
            refine lv_iload hx hb dX7_clear_59 (lv_at hl 5 rfl) ?_
            refine cw_i (va_runV (As := [.int (nI cn), .int (nI k29)]) (rest := []) ⟨hx, hb, hml, hown, hts⟩ (c_X7_answers l D cI H.size h a0 a1 a3 a5 a6 a8 a12 sn tu fn we rn per rea wn rw bs re ot cp ab be hh cn (nI k29) (by first | assumption | omega) (by first | assumption | omega) (by first | assumption | omega)) (cwV 2 hts gX7_clear_X7_answers rfl rfl rfl (by decide +kernel) ⟨(Nat.le_of_ble_eq_true rfl), (Nat.le_of_ble_eq_true rfl)⟩) (wr_preV hP hD hK rfl (q0 := 0) rfl) rfl rfl hl.1 rfl (lv_room (Nat.le_of_ble_eq_true rfl)) dX7_clear_61 ⟨Nat.zero_le _, Nat.zero_le _⟩) hP hD hS hA [0, 1, 2, 3, 4, 5, 6, 7] rfl rfl (fun H locs hP hD hS => ?_)
            have hP : va_P D vwCl [(h, .inr (5, [.ref a0, .ref a1, .int (nI fn), .ref a3, .int (nI rn), .ref a5, .ref a6, .int (nI wn), .ref a8, .int (nI bs), .int ((fX7_answers sn tu fn we cn (nI k29)).2.1), .int ((fX7_answers sn tu fn we cn (nI k29)).2.2), .ref a12, .long ab, .long be, .long hh])), (a0, .inl (cI, 6, .inl (fun i => nI (sn i)))), (a1, .inl (cI, 96, .inl tu)), (a3, .inl (cI, 24, .inl we)), (a5, .inl (cI, 4, .inl (fun i => nI (per i)))), (a6, .inl (cI, 4, .inl rea)), (a8, .inl (cI, 64, .inl rw)), (a12, .inl (cI, 16, .inl cp))] H := hP
            have hD : va_D A [(h, .inr (5, [.ref a0, .ref a1, .int (nI fn), .ref a3, .int (nI rn), .ref a5, .ref a6, .int (nI wn), .ref a8, .int (nI bs), .int ((fX7_answers sn tu fn we cn (nI k29)).2.1), .int ((fX7_answers sn tu fn we cn (nI k29)).2.2), .ref a12, .long ab, .long be, .long hh])), (a0, .inl (cI, 6, .inl (fun i => nI (sn i)))), (a1, .inl (cI, 96, .inl tu)), (a3, .inl (cI, 24, .inl we)), (a5, .inl (cI, 4, .inl (fun i => nI (per i)))), (a6, .inl (cI, 4, .inl rea)), (a8, .inl (cI, 64, .inl rw)), (a12, .inl (cI, 16, .inl cp))] := hD
            refine lv_istore (lv' := [(6, .int ((fX7_answers sn tu fn we cn (nI k29)).1)), (0, .ref h), (1, .int (nI cn)), (2, .int ((fX7_greatestOf sn tu fn we re ot cn).1)), (3, .int ((fX7_answers sn tu fn we cn ((fX7_greatestOf sn tu fn we re ot cn).1)).1)), (4, .int x4), (5, .int (nI k29))]) hx hb dX7_clear_64 hl (by decide) rfl (fun ls hl => ?_)
            refine lv_iload hx hb dX7_clear_66 (lv_at hl 0 rfl) ?_
            refine lv_iload hx hb dX7_clear_68 (lv_at hl 5 rfl) ?_
            refine lv_icmp_le (tgt := 78) hx hb dX7_clear_70 (by decide) (fun c70 => ?_) (fun c70 => ?_)
            · rw [if_pos c70] at hF
              refine lv_iload hx hb dX7_clear_78 (lv_at hl 5 rfl) ?_
              refine lv_istore (lv' := [(4, .int x4), (6, .int ((fX7_answers sn tu fn we cn (nI k29)).1)), (0, .ref h), (1, .int (nI cn)), (2, .int ((fX7_greatestOf sn tu fn we re ot cn).1)), (3, .int ((fX7_answers sn tu fn we cn ((fX7_greatestOf sn tu fn we re ot cn).1)).1)), (5, .int (nI k29))]) hx hb dX7_clear_80 hl (by decide) rfl (fun ls hl => ?_)
              refine lv_iinc (v := nI (k29 + 1)) (lv' := [(5, .int (nI (k29 + 1))), (4, .int x4), (6, .int ((fX7_answers sn tu fn we cn (nI k29)).1)), (0, .ref h), (1, .int (nI cn)), (2, .int ((fX7_greatestOf sn tu fn we re ot cn).1)), (3, .int ((fX7_answers sn tu fn we cn ((fX7_greatestOf sn tu fn we re ot cn).1)).1))]) hx hb dX7_clear_82 hl (k := 6) rfl (nI_1 _) (by decide) rfl (fun ls hl => ?_)
              refine lv_goto (tgt := 29) hx hb dX7_clear_85 (by decide) ?_
              exact ih29 (k29 + 1) x4 ((fX7_answers sn tu fn we cn (nI k29)).2.1) ((fX7_answers sn tu fn we cn (nI k29)).2.2) H locs ls (by omega) (by omega) hP hD hS (lv_sub hl [3, 4, 5, 6, 1, 0] rfl) hF
            · rw [if_neg c70] at hF
              refine lv_iload hx hb dX7_clear_73 (lv_at hl 0 rfl) ?_
              refine lv_goto (tgt := 80) hx hb dX7_clear_75 (by decide) ?_
              refine lv_istore (lv' := [(4, .int ((fX7_answers sn tu fn we cn (nI k29)).1)), (6, .int ((fX7_answers sn tu fn we cn (nI k29)).1)), (0, .ref h), (1, .int (nI cn)), (2, .int ((fX7_greatestOf sn tu fn we re ot cn).1)), (3, .int ((fX7_answers sn tu fn we cn ((fX7_greatestOf sn tu fn we re ot cn).1)).1)), (5, .int (nI k29))]) hx hb dX7_clear_80 hl (by decide) rfl (fun ls hl => ?_)
              refine lv_iinc (v := nI (k29 + 1)) (lv' := [(5, .int (nI (k29 + 1))), (4, .int ((fX7_answers sn tu fn we cn (nI k29)).1)), (6, .int ((fX7_answers sn tu fn we cn (nI k29)).1)), (0, .ref h), (1, .int (nI cn)), (2, .int ((fX7_greatestOf sn tu fn we re ot cn).1)), (3, .int ((fX7_answers sn tu fn we cn ((fX7_greatestOf sn tu fn we re ot cn).1)).1))]) hx hb dX7_clear_82 hl (k := 6) rfl (nI_1 _) (by decide) rfl (fun ls hl => ?_)
              refine lv_goto (tgt := 29) hx hb dX7_clear_85 (by decide) ?_
              exact ih29 (k29 + 1) ((fX7_answers sn tu fn we cn (nI k29)).1) ((fX7_answers sn tu fn we cn (nI k29)).2.1) ((fX7_answers sn tu fn we cn (nI k29)).2.2) H locs ls (by omega) (by omega) hP hD hS (lv_sub hl [3, 4, 5, 6, 1, 0] rfl) hF
          · rw [if_pos c50] at hF
            refine lv_iconst (v := 0) hx hb dX7_clear_53 (by decide) ?_
            refine lv_goto (tgt := 64) hx hb dX7_clear_54 (by decide) ?_
            refine lv_istore (lv' := [(6, .int 0), (0, .ref h), (1, .int (nI cn)), (2, .int ((fX7_greatestOf sn tu fn we re ot cn).1)), (3, .int ((fX7_answers sn tu fn we cn ((fX7_greatestOf sn tu fn we re ot cn).1)).1)), (4, .int x4), (5, .int (nI k29))]) hx hb dX7_clear_64 hl (by decide) rfl (fun ls hl => ?_)
            refine lv_iload hx hb dX7_clear_66 (lv_at hl 0 rfl) ?_
            refine lv_iload hx hb dX7_clear_68 (lv_at hl 5 rfl) ?_
            refine lv_icmp_le (tgt := 78) hx hb dX7_clear_70 (by decide) (fun c70 => ?_) (fun c70 => ?_)
            · rw [if_pos c70] at hF
              refine lv_iload hx hb dX7_clear_78 (lv_at hl 5 rfl) ?_
              refine lv_istore (lv' := [(4, .int x4), (6, .int 0), (0, .ref h), (1, .int (nI cn)), (2, .int ((fX7_greatestOf sn tu fn we re ot cn).1)), (3, .int ((fX7_answers sn tu fn we cn ((fX7_greatestOf sn tu fn we re ot cn).1)).1)), (5, .int (nI k29))]) hx hb dX7_clear_80 hl (by decide) rfl (fun ls hl => ?_)
              refine lv_iinc (v := nI (k29 + 1)) (lv' := [(5, .int (nI (k29 + 1))), (4, .int x4), (6, .int 0), (0, .ref h), (1, .int (nI cn)), (2, .int ((fX7_greatestOf sn tu fn we re ot cn).1)), (3, .int ((fX7_answers sn tu fn we cn ((fX7_greatestOf sn tu fn we re ot cn).1)).1))]) hx hb dX7_clear_82 hl (k := 6) rfl (nI_1 _) (by decide) rfl (fun ls hl => ?_)
              refine lv_goto (tgt := 29) hx hb dX7_clear_85 (by decide) ?_
              exact ih29 (k29 + 1) x4 re ot H locs ls (by omega) (by omega) hP hD hS (lv_sub hl [3, 4, 5, 6, 1, 0] rfl) hF
            · rw [if_neg c70] at hF
              refine lv_iload hx hb dX7_clear_73 (lv_at hl 0 rfl) ?_
              refine lv_goto (tgt := 80) hx hb dX7_clear_75 (by decide) ?_
              refine lv_istore (lv' := [(4, .int 0), (6, .int 0), (0, .ref h), (1, .int (nI cn)), (2, .int ((fX7_greatestOf sn tu fn we re ot cn).1)), (3, .int ((fX7_answers sn tu fn we cn ((fX7_greatestOf sn tu fn we re ot cn).1)).1)), (5, .int (nI k29))]) hx hb dX7_clear_80 hl (by decide) rfl (fun ls hl => ?_)
              refine lv_iinc (v := nI (k29 + 1)) (lv' := [(5, .int (nI (k29 + 1))), (4, .int 0), (6, .int 0), (0, .ref h), (1, .int (nI cn)), (2, .int ((fX7_greatestOf sn tu fn we re ot cn).1)), (3, .int ((fX7_answers sn tu fn we cn ((fX7_greatestOf sn tu fn we re ot cn).1)).1))]) hx hb dX7_clear_82 hl (k := 6) rfl (nI_1 _) (by decide) rfl (fun ls hl => ?_)
              refine lv_goto (tgt := 29) hx hb dX7_clear_85 (by decide) ?_
              exact ih29 (k29 + 1) 0 re ot H locs ls (by omega) (by omega) hP hD hS (lv_sub hl [3, 4, 5, 6, 1, 0] rfl) hF
    exact lp29 ((sn cn + fn - 1) - 0) 0 0 ((fX7_answers sn tu fn we cn ((fX7_greatestOf sn tu fn we re ot cn).1)).2.1) ((fX7_answers sn tu fn we cn ((fX7_greatestOf sn tu fn we re ot cn).1)).2.2) H _ ls rfl (by omega) hP hD hS (lv_sub hl [4, 5, 3, 2, 1, 0] rfl) hF
  · rw [if_pos c4] at hF
    refine lv_bipush (v := (-101)) hx hb dX7_clear_7 (by decide) ?_
    subst hF
    subst hQ
    exact W.iret (v := (-101)) hx hb hr (fun u9 ht hW => ⟨⟨_, (), rfl, rfl, by rw [← ht] at hP; exact hP⟩, hS.F ht⟩) hS.2.2 dX7_clear_9
def F_X7_rests_19 (nn : Nat) : Nat → Nat → (Nat → Nat) → (Nat → Int32) → (Int32 × Nat × (Nat → Nat) × (Nat → Int32))
  | 0, k19, per, rea => (nI nn, nn, per, rea)
  | r19 + 1, k19, per, rea => F_X7_rests_19 nn r19 (k19 + 1) (updN per k19 2) (upd rea k19 (-1))
def fX7_rests (rn : Nat) (per : Nat → Nat) (rea : Nat → Int32) (xn : Int32) : Int32 × Nat × (Nat → Nat) × (Nat → Int32) := (if (fX7_in xn 1 4) = 0 then ((-102), rn, per, rea) else F_X7_rests_19 (xn.toNatClampNeg) ((xn.toNatClampNeg) - 0) 0 per rea)
abbrev rmX7_rests : Room := { frames := 1, cells := 0, slots := 0, locals := 22 }
set_option maxHeartbeats 4000000 in
set_option maxRecDepth 100000 in
theorem c_X7_rests (l : Launch) (D : va_G) (cI : ClassId) (sz : Nat) (h : Nat) (a0 : Nat) (a1 : Nat) (a3 : Nat) (a5 : Nat) (a6 : Nat) (a8 : Nat) (a12 : Nat) (sn : Nat → Nat) (tu : Nat → Int32) (fn : Nat) (we : Nat → Int32) (rn : Nat) (per : Nat → Nat) (rea : Nat → Int32) (wn : Nat) (rw : Nat → Int32) (bs : Nat) (re : Int32) (ot : Int32) (cp : Nat → Int32) (ab : Int64) (be : Int64) (hh : Int64) (xn : Int32)  : Met l yX7_rests wsX7_rests rmX7_rests (va_Pc [.ref h, .int xn] (wrP D [(cI, .int)] [(h, .inr (5, [.ref a0, .ref a1, .int (nI fn), .ref a3, .int (nI rn), .ref a5, .ref a6, .int (nI wn), .ref a8, .int (nI bs), .int re, .int ot, .ref a12, .long ab, .long be, .long hh])), (a0, .inl (cI, 6, .inl (fun i => nI (sn i)))), (a1, .inl (cI, 96, .inl tu)), (a3, .inl (cI, 24, .inl we)), (a5, .inl (cI, 4, .inl (fun i => nI (per i)))), (a6, .inl (cI, 4, .inl rea)), (a8, .inl (cI, 64, .inl rw)), (a12, .inl (cI, 16, .inl cp))] sz)) (va_Qi (fun r9 (_ : Unit) => r9 = (fX7_rests rn per rea xn).1) (fun _ u9 => va_P D vwCl [(h, .inr (5, [.ref a0, .ref a1, .int (nI fn), .ref a3, .int (nI ((fX7_rests rn per rea xn).2.1)), .ref a5, .ref a6, .int (nI wn), .ref a8, .int (nI bs), .int re, .int ot, .ref a12, .long ab, .long be, .long hh])), (a0, .inl (cI, 6, .inl (fun i => nI (sn i)))), (a1, .inl (cI, 96, .inl tu)), (a3, .inl (cI, 24, .inl we)), (a5, .inl (cI, 4, .inl (fun i => nI (((fX7_rests rn per rea xn).2.2.1) i)))), (a6, .inl (cI, 4, .inl ((fX7_rests rn per rea xn).2.2.2))), (a8, .inl (cI, 64, .inl rw)), (a12, .inl (cI, 16, .inl cp))] u9.heap) (va_A [(h, .inr (5, [.ref a0, .ref a1, .int (nI fn), .ref a3, .int (nI rn), .ref a5, .ref a6, .int (nI wn), .ref a8, .int (nI bs), .int re, .int ot, .ref a12, .long ab, .long be, .long hh])), (a0, .inl (cI, 6, .inl (fun i => nI (sn i)))), (a1, .inl (cI, 96, .inl tu)), (a3, .inl (cI, 24, .inl we)), (a5, .inl (cI, 4, .inl (fun i => nI (per i)))), (a6, .inl (cI, 4, .inl rea)), (a8, .inl (cI, 64, .inl rw)), (a12, .inl (cI, 16, .inl cp))] sz)) 0 0 (va_A [(h, .inr (5, [.ref a0, .ref a1, .int (nI fn), .ref a3, .int (nI rn), .ref a5, .ref a6, .int (nI wn), .ref a8, .int (nI bs), .int re, .int ot, .ref a12, .long ab, .long be, .long hh])), (a0, .inl (cI, 6, .inl (fun i => nI (sn i)))), (a1, .inl (cI, 96, .inl tu)), (a3, .inl (cI, 24, .inl we)), (a5, .inl (cI, 4, .inl (fun i => nI (per i)))), (a6, .inl (cI, 4, .inl rea)), (a8, .inl (cI, 64, .inl rw)), (a12, .inl (cI, 16, .inl cp))] sz) := by
  generalize hF : fX7_rests rn per rea xn = T
  refine Met.ofW (cc := cX7_rests) (maxL := 3) (ret := (some .int)) (by decide) rfl ?_
  intro p e s m args below meth c s₁ B hml hv
  obtain ⟨rfl, hsz, hP, hK, hD0⟩ := hv
  have hx := B.exec
  have hb := B.bytes
  have hr := B.returns
  have hts := atoms_spec (ws := wsX7_rests) B.pre
  have hown : s.vm.findClass RX7 = some m.cls := findClass_of_methodNamed B.named
  have hlocks := B.notSynchronized
  have hinX7 : ∀ w ∈ u_ws RX7 TX7 16, w ∈ wsX7_rests := by decide +kernel
  have hf23 := hts (.fieldLink RX7 23 "PulseSignsModel" "restMany" "I") (by decide +kernel)
  have hf26 := hts (.fieldLink RX7 26 "PulseSignsModel" "restOf" "[I") (by decide +kernel)
  have hf29 := hts (.fieldLink RX7 29 "PulseSignsModel" "readOf" "[I") (by decide +kernel)
  subst hsz
  have hD := hD0.self (sz := s.heap.size)
  generalize hAe : va_A [(h, .inr (5, [.ref a0, .ref a1, .int (nI fn), .ref a3, .int (nI rn), .ref a5, .ref a6, .int (nI wn), .ref a8, .int (nI bs), .int re, .int ot, .ref a12, .long ab, .long be, .long hh])), (a0, .inl (cI, 6, .inl (fun i => nI (sn i)))), (a1, .inl (cI, 96, .inl tu)), (a3, .inl (cI, 24, .inl we)), (a5, .inl (cI, 4, .inl (fun i => nI (per i)))), (a6, .inl (cI, 4, .inl rea)), (a8, .inl (cI, 64, .inl rw)), (a12, .inl (cI, 16, .inl cp))] s.heap.size = A at hD ⊢
  have hA : ∀ q : Nat, s.heap.size ≤ q → A q := fun q h => by rw [← hAe]; exact Or.inr h
  have hS : va_S A s.heap s.heap [] := va_S.rf
  have hP : va_P D vwCl [(h, .inr (5, [.ref a0, .ref a1, .int (nI fn), .ref a3, .int (nI rn), .ref a5, .ref a6, .int (nI wn), .ref a8, .int (nI bs), .int re, .int ot, .ref a12, .long ab, .long be, .long hh])), (a0, .inl (cI, 6, .inl (fun i => nI (sn i)))), (a1, .inl (cI, 96, .inl tu)), (a3, .inl (cI, 24, .inl we)), (a5, .inl (cI, 4, .inl (fun i => nI (per i)))), (a6, .inl (cI, 4, .inl rea)), (a8, .inl (cI, 64, .inl rw)), (a12, .inl (cI, 16, .inl cp))] s.heap := hP
  have hl := lv_entry ([.ref h, .int xn]) (n := 3) (Nat.le_of_ble_eq_true rfl)
  rw [lg_entry_eq]
  generalize (lg_sl ([.ref h, .int xn]) ++ List.replicate (3 - (lg_sl ([.ref h, .int xn])).length) Slot.unset).toArray = ls at hl ⊢
  refine w_Q (fun Q hQ => ?_)
  have hl : lv_has ls 3 [(0, .ref h), (1, .int xn)] := hl
  rw [fX7_rests] at hF
  refine lv_iload_n hx hb dX7_rests_0 rfl (lv_at hl 1 rfl) ?_
  refine lv_iconst (v := 1) hx hb dX7_rests_1 (by decide) ?_
  refine lv_iconst (v := 4) hx hb dX7_rests_2 (by decide) ?_
  have hPc := hP.sub (ws' := []) [] rfl
  refine cs_i (va_runS (As := [.int xn, .int 1, .int 4]) (rest := []) ⟨hx, hb, hml, hown, hts⟩ (c_X7_in l D cI xn 1 4 ) (va_cwS 3 hts gX7_rests_X7_in rfl rfl rfl (by decide +kernel) ⟨(Nat.le_of_ble_eq_true rfl), (Nat.le_of_ble_eq_true rfl)⟩) (ro_pre hPc hK) rfl rfl hl.1 rfl (lv_room (Nat.le_of_ble_eq_true rfl)) dX7_rests_3 ⟨Nat.zero_le _, Nat.zero_le _⟩) ?_
  refine lv_if_ne (tgt := 12) hx hb dX7_rests_6 (by decide) (fun c6 => ?_) (fun c6 => ?_)
  · rw [if_neg c6] at hF
    obtain ⟨nn, hnn1, hnn, rfl⟩ := in_nat (a := 1) (b := 4) c6 (by omega)
    have e_nn : (nI nn).toNatClampNeg = nn := nI_clamp (by omega)
    try simp only [e_nn] at hF
    refine lv_aload_n hx hb dX7_rests_12 rfl (lv_at hl 0 rfl) ?_
    refine lv_iload_n hx hb dX7_rests_13 rfl (lv_at hl 1 rfl) ?_
    refine va_put (D := D) (ci := 5) (v := .int (nI nn)) (ty := .int) (C := RX7) (T := TX7) (N := 16) hx hb hts hinX7 tyX7 tyX7_ok nmX7 hown hK.1 hP hD hS 0 rfl rfl 4 (by decide) hf23 (fun _ h9 => h9) rfl (by decide +kernel) rfl rfl (Nat.le_of_ble_eq_true rfl) dX7_rests_14 (fun H locs hP hD hS => ?_)
    have hP : va_P D vwCl [(h, .inr (5, [.ref a0, .ref a1, .int (nI fn), .ref a3, .int (nI nn), .ref a5, .ref a6, .int (nI wn), .ref a8, .int (nI bs), .int re, .int ot, .ref a12, .long ab, .long be, .long hh])), (a0, .inl (cI, 6, .inl (fun i => nI (sn i)))), (a1, .inl (cI, 96, .inl tu)), (a3, .inl (cI, 24, .inl we)), (a5, .inl (cI, 4, .inl (fun i => nI (per i)))), (a6, .inl (cI, 4, .inl rea)), (a8, .inl (cI, 64, .inl rw)), (a12, .inl (cI, 16, .inl cp))] H := hP
    have hD : va_D A [(h, .inr (5, [.ref a0, .ref a1, .int (nI fn), .ref a3, .int (nI nn), .ref a5, .ref a6, .int (nI wn), .ref a8, .int (nI bs), .int re, .int ot, .ref a12, .long ab, .long be, .long hh])), (a0, .inl (cI, 6, .inl (fun i => nI (sn i)))), (a1, .inl (cI, 96, .inl tu)), (a3, .inl (cI, 24, .inl we)), (a5, .inl (cI, 4, .inl (fun i => nI (per i)))), (a6, .inl (cI, 4, .inl rea)), (a8, .inl (cI, 64, .inl rw)), (a12, .inl (cI, 16, .inl cp))] := hD
    refine lv_iconst (v := 0) hx hb dX7_rests_17 (by decide) ?_
    refine lv_istore_n (lv' := [(2, .int 0), (0, .ref h), (1, .int (nI nn))]) hx hb dX7_rests_18 rfl hl (by decide) rfl (fun ls hl => ?_)
    have lp19 : ∀ (r19 k19 : Nat) (per : Nat → Nat) (rea : Nat → Int32) (H : Heap) (locs : List Loc) (ls : Array Slot), r19 = nn - k19 → k19 ≤ nn + 1 → va_P D vwCl [(h, .inr (5, [.ref a0, .ref a1, .int (nI fn), .ref a3, .int (nI nn), .ref a5, .ref a6, .int (nI wn), .ref a8, .int (nI bs), .int re, .int ot, .ref a12, .long ab, .long be, .long hh])), (a0, .inl (cI, 6, .inl (fun i => nI (sn i)))), (a1, .inl (cI, 96, .inl tu)), (a3, .inl (cI, 24, .inl we)), (a5, .inl (cI, 4, .inl (fun i => nI (per i)))), (a6, .inl (cI, 4, .inl rea)), (a8, .inl (cI, 64, .inl rw)), (a12, .inl (cI, 16, .inl cp))] H → va_D A [(h, .inr (5, [.ref a0, .ref a1, .int (nI fn), .ref a3, .int (nI nn), .ref a5, .ref a6, .int (nI wn), .ref a8, .int (nI bs), .int re, .int ot, .ref a12, .long ab, .long be, .long hh])), (a0, .inl (cI, 6, .inl (fun i => nI (sn i)))), (a1, .inl (cI, 96, .inl tu)), (a3, .inl (cI, 24, .inl we)), (a5, .inl (cI, 4, .inl (fun i => nI (per i)))), (a6, .inl (cI, 4, .inl rea)), (a8, .inl (cI, 64, .inl rw)), (a12, .inl (cI, 16, .inl cp))] → va_S A s.heap H locs → lv_has ls 3 [(0, .ref h), (1, .int (nI nn)), (2, .int (nI k19))] → F_X7_rests_19 nn r19 k19 per rea = T → W p l e (headSpec wsX7_rests rmX7_rests).room s m ([.ref h, .int (nI nn)] : List Value).toArray below meth c H locs 0 0 Q (F0 m 19 ls []) := by
      intro r19
      induction r19 with
      | zero =>
        intro k19 per rea H locs ls hi19_0 hi19_1 hP hD hS hl hF
        rw [F_X7_rests_19] at hF
        refine lv_iload_n hx hb dX7_rests_19 rfl (lv_at hl 2 rfl) ?_
        refine lv_iload_n hx hb dX7_rests_20 rfl (lv_at hl 1 rfl) ?_
        refine lv_icmp_ge (tgt := 44) hx hb dX7_rests_21 (by decide) (fun c21 => ?_) (fun c21 => ?_)
        · skip
          refine lv_iload_n hx hb dX7_rests_44 rfl (lv_at hl 1 rfl) ?_
          subst hF
          subst hQ
          exact W.iret (v := nI nn) hx hb hr (fun u9 ht hW => ⟨⟨_, (), rfl, rfl, by rw [← ht] at hP; exact hP⟩, hS.F ht⟩) hS.2.2 dX7_rests_45
        · exact False.elim (c21 (nI_le (a := nn) (b := k19) (by omega) (by omega)))
      | succ r19 ih19 =>
        intro k19 per rea H locs ls hi19_0 hi19_1 hP hD hS hl hF
        rw [F_X7_rests_19] at hF
        refine lv_iload_n hx hb dX7_rests_19 rfl (lv_at hl 2 rfl) ?_
        refine lv_iload_n hx hb dX7_rests_20 rfl (lv_at hl 1 rfl) ?_
        refine lv_icmp_ge (tgt := 44) hx hb dX7_rests_21 (by decide) (fun c21 => ?_) (fun c21 => ?_)
        · exact False.elim (nI_ge (a := k19) (b := nn) (by omega) (by omega) c21)
        · skip
          refine lv_aload_n hx hb dX7_rests_24 rfl (lv_at hl 0 rfl) ?_
          refine va_get (D := D) (ci := 5) (v := .ref a5) (C := RX7) (T := TX7) (N := 16) hx hb hts hinX7 hown hK.1 hP 0 rfl rfl 5 (by decide) hf26 (fun _ h9 => h9) rfl dX7_rests_25 ?_
          refine lv_iload_n hx hb dX7_rests_28 rfl (lv_at hl 2 rfl) ?_
          refine lv_iconst (v := 2) hx hb dX7_rests_29 (by decide) ?_
          refine w_ast hx hb hK hP hD hS 4 0 rfl rfl (k19) rfl (by omega) (by omega) dX7_rests_30 (fun H locs hP hD hS => ?_)
          rw [updN_rowv (v := 2) (x := 2) rfl] at hP hD
          have hP : va_P D vwCl [(h, .inr (5, [.ref a0, .ref a1, .int (nI fn), .ref a3, .int (nI nn), .ref a5, .ref a6, .int (nI wn), .ref a8, .int (nI bs), .int re, .int ot, .ref a12, .long ab, .long be, .long hh])), (a0, .inl (cI, 6, .inl (fun i => nI (sn i)))), (a1, .inl (cI, 96, .inl tu)), (a3, .inl (cI, 24, .inl we)), (a5, .inl (cI, 4, .inl (fun i => nI ((updN per k19 2) i)))), (a6, .inl (cI, 4, .inl rea)), (a8, .inl (cI, 64, .inl rw)), (a12, .inl (cI, 16, .inl cp))] H := hP
          have hD : va_D A [(h, .inr (5, [.ref a0, .ref a1, .int (nI fn), .ref a3, .int (nI nn), .ref a5, .ref a6, .int (nI wn), .ref a8, .int (nI bs), .int re, .int ot, .ref a12, .long ab, .long be, .long hh])), (a0, .inl (cI, 6, .inl (fun i => nI (sn i)))), (a1, .inl (cI, 96, .inl tu)), (a3, .inl (cI, 24, .inl we)), (a5, .inl (cI, 4, .inl (fun i => nI ((updN per k19 2) i)))), (a6, .inl (cI, 4, .inl rea)), (a8, .inl (cI, 64, .inl rw)), (a12, .inl (cI, 16, .inl cp))] := hD
          refine lv_aload_n hx hb dX7_rests_31 rfl (lv_at hl 0 rfl) ?_
          refine va_get (D := D) (ci := 5) (v := .ref a6) (C := RX7) (T := TX7) (N := 16) hx hb hts hinX7 hown hK.1 hP 0 rfl rfl 6 (by decide) hf29 (fun _ h9 => h9) rfl dX7_rests_32 ?_
          refine lv_iload_n hx hb dX7_rests_35 rfl (lv_at hl 2 rfl) ?_
          refine lv_iconst (v := (-1)) hx hb dX7_rests_36 (by decide) ?_
          refine w_ast hx hb hK hP hD hS 5 0 rfl rfl (k19) rfl (by omega) (by omega) dX7_rests_37 (fun H locs hP hD hS => ?_)
          have hP : va_P D vwCl [(h, .inr (5, [.ref a0, .ref a1, .int (nI fn), .ref a3, .int (nI nn), .ref a5, .ref a6, .int (nI wn), .ref a8, .int (nI bs), .int re, .int ot, .ref a12, .long ab, .long be, .long hh])), (a0, .inl (cI, 6, .inl (fun i => nI (sn i)))), (a1, .inl (cI, 96, .inl tu)), (a3, .inl (cI, 24, .inl we)), (a5, .inl (cI, 4, .inl (fun i => nI ((updN per k19 2) i)))), (a6, .inl (cI, 4, .inl (upd rea k19 (-1)))), (a8, .inl (cI, 64, .inl rw)), (a12, .inl (cI, 16, .inl cp))] H := hP
          have hD : va_D A [(h, .inr (5, [.ref a0, .ref a1, .int (nI fn), .ref a3, .int (nI nn), .ref a5, .ref a6, .int (nI wn), .ref a8, .int (nI bs), .int re, .int ot, .ref a12, .long ab, .long be, .long hh])), (a0, .inl (cI, 6, .inl (fun i => nI (sn i)))), (a1, .inl (cI, 96, .inl tu)), (a3, .inl (cI, 24, .inl we)), (a5, .inl (cI, 4, .inl (fun i => nI ((updN per k19 2) i)))), (a6, .inl (cI, 4, .inl (upd rea k19 (-1)))), (a8, .inl (cI, 64, .inl rw)), (a12, .inl (cI, 16, .inl cp))] := hD
          refine lv_iinc (v := nI (k19 + 1)) (lv' := [(2, .int (nI (k19 + 1))), (0, .ref h), (1, .int (nI nn))]) hx hb dX7_rests_38 hl (k := 2) rfl (nI_1 _) (by decide) rfl (fun ls hl => ?_)
          refine lv_goto (tgt := 19) hx hb dX7_rests_41 (by decide) ?_
          exact ih19 (k19 + 1) (updN per k19 2) (upd rea k19 (-1)) H locs ls (by omega) (by omega) hP hD hS (lv_sub hl [1, 2, 0] rfl) hF
    exact lp19 (nn - 0) 0 per rea H _ ls rfl (by omega) hP hD hS (lv_sub hl [1, 2, 0] rfl) hF
  · rw [if_pos c6] at hF
    refine lv_bipush (v := (-102)) hx hb dX7_rests_9 (by decide) ?_
    subst hF
    subst hQ
    exact W.iret (v := (-102)) hx hb hr (fun u9 ht hW => ⟨⟨_, (), rfl, rfl, by rw [← ht] at hP; exact hP⟩, hS.F ht⟩) hS.2.2 dX7_rests_11
def fX7_isRest (rn : Nat) (i : Int32) : Int32 := fX7_in i 0 ((nI rn) - 1)
abbrev rmX7_isRest : Room := { frames := 1, cells := 0, slots := 0, locals := 22 }
set_option maxHeartbeats 4000000 in
set_option maxRecDepth 100000 in
theorem c_X7_isRest (l : Launch) (D : va_G) (cI : ClassId) (h : Nat) (a0 : Nat) (a1 : Nat) (a3 : Nat) (a5 : Nat) (a6 : Nat) (a8 : Nat) (a12 : Nat) (sn : Nat → Nat) (tu : Nat → Int32) (fn : Nat) (we : Nat → Int32) (rn : Nat) (per : Nat → Nat) (rea : Nat → Int32) (wn : Nat) (rw : Nat → Int32) (bs : Nat) (re : Int32) (ot : Int32) (cp : Nat → Int32) (ab : Int64) (be : Int64) (hh : Int64) (i : Int32)  : Met l yX7_isRest wsX7_isRest rmX7_isRest (va_Pc [.ref h, .int i] (roP D [(cI, .int)] [(h, .inr (5, [.ref a0, .ref a1, .int (nI fn), .ref a3, .int (nI rn), .ref a5, .ref a6, .int (nI wn), .ref a8, .int (nI bs), .int re, .int ot, .ref a12, .long ab, .long be, .long hh])), (a0, .inl (cI, 6, .inl (fun i => nI (sn i)))), (a1, .inl (cI, 96, .inl tu)), (a3, .inl (cI, 24, .inl we)), (a5, .inl (cI, 4, .inl (fun i => nI (per i)))), (a6, .inl (cI, 4, .inl rea)), (a8, .inl (cI, 64, .inl rw)), (a12, .inl (cI, 16, .inl cp))])) (vp_Si (fun r9 => r9 = fX7_isRest rn i)) 0 0 (fun _ => False) := by
  generalize hF : fX7_isRest rn i = T
  refine Met.ofW (cc := cX7_isRest) (maxL := 2) (ret := (some .boolean)) (by decide) rfl ?_
  intro p e s m args below meth c s₁ B hml hv
  obtain ⟨rfl, hP, hK⟩ := hv
  have hx := B.exec
  have hb := B.bytes
  have hr := B.returns
  have hts := atoms_spec (ws := wsX7_isRest) B.pre
  have hown : s.vm.findClass RX7 = some m.cls := findClass_of_methodNamed B.named
  have hlocks := B.notSynchronized
  have hinX7 : ∀ w ∈ u_ws RX7 TX7 16, w ∈ wsX7_isRest := by decide +kernel
  have hf23 := hts (.fieldLink RX7 23 "PulseSignsModel" "restMany" "I") (by decide +kernel)
  have hl := lv_entry ([.ref h, .int i]) (n := 2) (Nat.le_of_ble_eq_true rfl)
  rw [lg_entry_eq]
  generalize (lg_sl ([.ref h, .int i]) ++ List.replicate (2 - (lg_sl ([.ref h, .int i])).length) Slot.unset).toArray = ls at hl ⊢
  refine w_Q (fun Q hQ => ?_)
  have hl : lv_has ls 2 [(0, .ref h), (1, .int i)] := hl
  rw [fX7_isRest] at hF
  refine lv_iload_n hx hb dX7_isRest_0 rfl (lv_at hl 1 rfl) ?_
  refine lv_iconst (v := 0) hx hb dX7_isRest_1 (by decide) ?_
  refine lv_aload_n hx hb dX7_isRest_2 rfl (lv_at hl 0 rfl) ?_
  refine va_get (D := D) (ci := 5) (v := .int (nI rn)) (C := RX7) (T := TX7) (N := 16) hx hb hts hinX7 hown hK.1 hP 0 rfl rfl 4 (by decide) hf23 (fun _ h9 => h9) rfl dX7_isRest_3 ?_
  refine lv_iconst (v := 1) hx hb dX7_isRest_6 (by decide) ?_
  refine lv_isub hx hb dX7_isRest_7 ?_
  have hPc := hP.sub (ws' := []) [] rfl
  refine cs_i (va_runS (As := [.int i, .int 0, .int ((nI rn) - 1)]) (rest := []) ⟨hx, hb, hml, hown, hts⟩ (c_X7_in l D cI i 0 ((nI rn) - 1) ) (va_cwS 3 hts gX7_isRest_X7_in rfl rfl rfl (by decide +kernel) ⟨(Nat.le_of_ble_eq_true rfl), (Nat.le_of_ble_eq_true rfl)⟩) (ro_pre hPc hK) rfl rfl hl.1 rfl (lv_room (Nat.le_of_ble_eq_true rfl)) dX7_isRest_8 ⟨Nat.zero_le _, Nat.zero_le _⟩) ?_
  subst hQ
  exact W.zret (v := fX7_in i 0 ((nI rn) - 1)) (ty := .boolean) hx hb hr (nb_of (bX7_in ..)) (fun u9 ht hW => ⟨_, rfl, hF, ht⟩) (fun q hq => by cases hq) dX7_isRest_11
theorem bX7_isRest (rn : Nat) (i : Int32) : fX7_isRest rn i = 0 ∨ fX7_isRest rn i = 1 := bX7_in ..
def fX7_rest (rn : Nat) (per : Nat → Nat) (rea : Nat → Int32) (xi : Int32) (xp : Int32) : Int32 × (Nat → Nat) × (Nat → Int32) := (if (fX7_isRest rn xi) = 0 then ((-101), per, rea) else (if (fX7_in xp 2 60) = 0 then ((-102), per, rea) else (nI (per (xi.toNatClampNeg)), updN per (xi.toNatClampNeg) (xp.toNatClampNeg), upd rea (xi.toNatClampNeg) (-1))))
abbrev rmX7_rest : Room := { frames := 2, cells := 0, slots := 0, locals := 43 }
set_option maxHeartbeats 4000000 in
set_option maxRecDepth 100000 in
theorem c_X7_rest (l : Launch) (D : va_G) (cI : ClassId) (sz : Nat) (h : Nat) (a0 : Nat) (a1 : Nat) (a3 : Nat) (a5 : Nat) (a6 : Nat) (a8 : Nat) (a12 : Nat) (sn : Nat → Nat) (tu : Nat → Int32) (fn : Nat) (we : Nat → Int32) (rn : Nat) (per : Nat → Nat) (rea : Nat → Int32) (wn : Nat) (rw : Nat → Int32) (bs : Nat) (re : Int32) (ot : Int32) (cp : Nat → Int32) (ab : Int64) (be : Int64) (hh : Int64) (xi : Int32) (xp : Int32) (hrn : 1 ≤ rn ∧ rn ≤ 4) : Met l yX7_rest wsX7_rest rmX7_rest (va_Pc [.ref h, .int xi, .int xp] (wrP D [(cI, .int)] [(h, .inr (5, [.ref a0, .ref a1, .int (nI fn), .ref a3, .int (nI rn), .ref a5, .ref a6, .int (nI wn), .ref a8, .int (nI bs), .int re, .int ot, .ref a12, .long ab, .long be, .long hh])), (a0, .inl (cI, 6, .inl (fun i => nI (sn i)))), (a1, .inl (cI, 96, .inl tu)), (a3, .inl (cI, 24, .inl we)), (a5, .inl (cI, 4, .inl (fun i => nI (per i)))), (a6, .inl (cI, 4, .inl rea)), (a8, .inl (cI, 64, .inl rw)), (a12, .inl (cI, 16, .inl cp))] sz)) (va_Qi (fun r9 (_ : Unit) => r9 = (fX7_rest rn per rea xi xp).1) (fun _ u9 => va_P D vwCl [(h, .inr (5, [.ref a0, .ref a1, .int (nI fn), .ref a3, .int (nI rn), .ref a5, .ref a6, .int (nI wn), .ref a8, .int (nI bs), .int re, .int ot, .ref a12, .long ab, .long be, .long hh])), (a0, .inl (cI, 6, .inl (fun i => nI (sn i)))), (a1, .inl (cI, 96, .inl tu)), (a3, .inl (cI, 24, .inl we)), (a5, .inl (cI, 4, .inl (fun i => nI (((fX7_rest rn per rea xi xp).2.1) i)))), (a6, .inl (cI, 4, .inl ((fX7_rest rn per rea xi xp).2.2))), (a8, .inl (cI, 64, .inl rw)), (a12, .inl (cI, 16, .inl cp))] u9.heap) (va_A [(h, .inr (5, [.ref a0, .ref a1, .int (nI fn), .ref a3, .int (nI rn), .ref a5, .ref a6, .int (nI wn), .ref a8, .int (nI bs), .int re, .int ot, .ref a12, .long ab, .long be, .long hh])), (a0, .inl (cI, 6, .inl (fun i => nI (sn i)))), (a1, .inl (cI, 96, .inl tu)), (a3, .inl (cI, 24, .inl we)), (a5, .inl (cI, 4, .inl (fun i => nI (per i)))), (a6, .inl (cI, 4, .inl rea)), (a8, .inl (cI, 64, .inl rw)), (a12, .inl (cI, 16, .inl cp))] sz)) 0 0 (va_A [(h, .inr (5, [.ref a0, .ref a1, .int (nI fn), .ref a3, .int (nI rn), .ref a5, .ref a6, .int (nI wn), .ref a8, .int (nI bs), .int re, .int ot, .ref a12, .long ab, .long be, .long hh])), (a0, .inl (cI, 6, .inl (fun i => nI (sn i)))), (a1, .inl (cI, 96, .inl tu)), (a3, .inl (cI, 24, .inl we)), (a5, .inl (cI, 4, .inl (fun i => nI (per i)))), (a6, .inl (cI, 4, .inl rea)), (a8, .inl (cI, 64, .inl rw)), (a12, .inl (cI, 16, .inl cp))] sz) := by
  generalize hF : fX7_rest rn per rea xi xp = T
  refine Met.ofW (cc := cX7_rest) (maxL := 4) (ret := (some .int)) (by decide) rfl ?_
  intro p e s m args below meth c s₁ B hml hv
  obtain ⟨rfl, hsz, hP, hK, hD0⟩ := hv
  have hx := B.exec
  have hb := B.bytes
  have hr := B.returns
  have hts := atoms_spec (ws := wsX7_rest) B.pre
  have hown : s.vm.findClass RX7 = some m.cls := findClass_of_methodNamed B.named
  have hlocks := B.notSynchronized
  have hinX7 : ∀ w ∈ u_ws RX7 TX7 16, w ∈ wsX7_rest := by decide +kernel
  have hf26 := hts (.fieldLink RX7 26 "PulseSignsModel" "restOf" "[I") (by decide +kernel)
  have hf29 := hts (.fieldLink RX7 29 "PulseSignsModel" "readOf" "[I") (by decide +kernel)
  subst hsz
  have hD := hD0.self (sz := s.heap.size)
  generalize hAe : va_A [(h, .inr (5, [.ref a0, .ref a1, .int (nI fn), .ref a3, .int (nI rn), .ref a5, .ref a6, .int (nI wn), .ref a8, .int (nI bs), .int re, .int ot, .ref a12, .long ab, .long be, .long hh])), (a0, .inl (cI, 6, .inl (fun i => nI (sn i)))), (a1, .inl (cI, 96, .inl tu)), (a3, .inl (cI, 24, .inl we)), (a5, .inl (cI, 4, .inl (fun i => nI (per i)))), (a6, .inl (cI, 4, .inl rea)), (a8, .inl (cI, 64, .inl rw)), (a12, .inl (cI, 16, .inl cp))] s.heap.size = A at hD ⊢
  have hA : ∀ q : Nat, s.heap.size ≤ q → A q := fun q h => by rw [← hAe]; exact Or.inr h
  have hS : va_S A s.heap s.heap [] := va_S.rf
  have hP : va_P D vwCl [(h, .inr (5, [.ref a0, .ref a1, .int (nI fn), .ref a3, .int (nI rn), .ref a5, .ref a6, .int (nI wn), .ref a8, .int (nI bs), .int re, .int ot, .ref a12, .long ab, .long be, .long hh])), (a0, .inl (cI, 6, .inl (fun i => nI (sn i)))), (a1, .inl (cI, 96, .inl tu)), (a3, .inl (cI, 24, .inl we)), (a5, .inl (cI, 4, .inl (fun i => nI (per i)))), (a6, .inl (cI, 4, .inl rea)), (a8, .inl (cI, 64, .inl rw)), (a12, .inl (cI, 16, .inl cp))] s.heap := hP
  have hl := lv_entry ([.ref h, .int xi, .int xp]) (n := 4) (Nat.le_of_ble_eq_true rfl)
  rw [lg_entry_eq]
  generalize (lg_sl ([.ref h, .int xi, .int xp]) ++ List.replicate (4 - (lg_sl ([.ref h, .int xi, .int xp])).length) Slot.unset).toArray = ls at hl ⊢
  refine w_Q (fun Q hQ => ?_)
  have hl : lv_has ls 4 [(0, .ref h), (1, .int xi), (2, .int xp)] := hl
  rw [fX7_rest] at hF
  refine lv_aload_n hx hb dX7_rest_0 rfl (lv_at hl 0 rfl) ?_
  refine lv_iload_n hx hb dX7_rest_1 rfl (lv_at hl 1 rfl) ?_
  refine cs_i (va_runV (As := [.int xi]) (rest := []) ⟨hx, hb, hml, hown, hts⟩ (c_X7_isRest l D cI h a0 a1 a3 a5 a6 a8 a12 sn tu fn we rn per rea wn rw bs re ot cp ab be hh xi ) (cwV 1 hts gX7_rest_X7_isRest rfl rfl rfl (by decide +kernel) ⟨(Nat.le_of_ble_eq_true rfl), (Nat.le_of_ble_eq_true rfl)⟩) (ro_preV hP hK rfl (q0 := 0) rfl) rfl rfl hl.1 rfl (lv_room (Nat.le_of_ble_eq_true rfl)) dX7_rest_2 ⟨Nat.zero_le _, Nat.zero_le _⟩) ?_
  refine lv_if_ne (tgt := 11) hx hb dX7_rest_5 (by decide) (fun c5 => ?_) (fun c5 => ?_)
  · rw [if_neg c5] at hF
    obtain ⟨ii, hii, rfl⟩ := in_m1 c5 (by omega)
    have e_ii : (nI ii).toNatClampNeg = ii := nI_clamp (by omega)
    try simp only [e_ii] at hF
    refine lv_iload_n hx hb dX7_rest_11 rfl (lv_at hl 2 rfl) ?_
    refine lv_iconst (v := 2) hx hb dX7_rest_12 (by decide) ?_
    refine lv_bipush (v := 60) hx hb dX7_rest_13 (by decide) ?_
    have hPc := hP.sub (ws' := []) [] rfl
    refine cs_i (va_runS (As := [.int xp, .int 2, .int 60]) (rest := []) ⟨hx, hb, hml, hown, hts⟩ (c_X7_in l D cI xp 2 60 ) (va_cwS 3 hts gX7_rest_X7_in rfl rfl rfl (by decide +kernel) ⟨(Nat.le_of_ble_eq_true rfl), (Nat.le_of_ble_eq_true rfl)⟩) (ro_pre hPc hK) rfl rfl hl.1 rfl (lv_room (Nat.le_of_ble_eq_true rfl)) dX7_rest_15 ⟨Nat.zero_le _, Nat.zero_le _⟩) ?_
    refine lv_if_ne (tgt := 24) hx hb dX7_rest_18 (by decide) (fun c18 => ?_) (fun c18 => ?_)
    · rw [if_neg c18] at hF
      obtain ⟨pn, hpn1, hpn, rfl⟩ := in_nat (a := 2) (b := 60) c18 (by omega)
      have e_pn : (nI pn).toNatClampNeg = pn := nI_clamp (by omega)
      try simp only [e_pn] at hF
      refine lv_aload_n hx hb dX7_rest_24 rfl (lv_at hl 0 rfl) ?_
      refine va_get (D := D) (ci := 5) (v := .ref a5) (C := RX7) (T := TX7) (N := 16) hx hb hts hinX7 hown hK.1 hP 0 rfl rfl 5 (by decide) hf26 (fun _ h9 => h9) rfl dX7_rest_25 ?_
      refine lv_iload_n hx hb dX7_rest_28 rfl (lv_at hl 1 rfl) ?_
      refine w_ald hx hb hK hP 4 0 rfl rfl (ii) rfl (by omega) (by omega) dX7_rest_29 ?_
      refine lv_istore_n (lv' := [(3, .int (nI (per ii))), (0, .ref h), (1, .int (nI ii)), (2, .int (nI pn))]) hx hb dX7_rest_30 rfl hl (by decide) rfl (fun ls hl => ?_)
      refine lv_aload_n hx hb dX7_rest_31 rfl (lv_at hl 1 rfl) ?_
      refine va_get (D := D) (ci := 5) (v := .ref a5) (C := RX7) (T := TX7) (N := 16) hx hb hts hinX7 hown hK.1 hP 0 rfl rfl 5 (by decide) hf26 (fun _ h9 => h9) rfl dX7_rest_32 ?_
      refine lv_iload_n hx hb dX7_rest_35 rfl (lv_at hl 2 rfl) ?_
      refine lv_iload_n hx hb dX7_rest_36 rfl (lv_at hl 3 rfl) ?_
      refine w_ast hx hb hK hP hD hS 4 0 rfl rfl (ii) rfl (by omega) (by omega) dX7_rest_37 (fun H locs hP hD hS => ?_)
      rw [updN_row] at hP hD
      have hP : va_P D vwCl [(h, .inr (5, [.ref a0, .ref a1, .int (nI fn), .ref a3, .int (nI rn), .ref a5, .ref a6, .int (nI wn), .ref a8, .int (nI bs), .int re, .int ot, .ref a12, .long ab, .long be, .long hh])), (a0, .inl (cI, 6, .inl (fun i => nI (sn i)))), (a1, .inl (cI, 96, .inl tu)), (a3, .inl (cI, 24, .inl we)), (a5, .inl (cI, 4, .inl (fun i => nI ((updN per ii pn) i)))), (a6, .inl (cI, 4, .inl rea)), (a8, .inl (cI, 64, .inl rw)), (a12, .inl (cI, 16, .inl cp))] H := hP
      have hD : va_D A [(h, .inr (5, [.ref a0, .ref a1, .int (nI fn), .ref a3, .int (nI rn), .ref a5, .ref a6, .int (nI wn), .ref a8, .int (nI bs), .int re, .int ot, .ref a12, .long ab, .long be, .long hh])), (a0, .inl (cI, 6, .inl (fun i => nI (sn i)))), (a1, .inl (cI, 96, .inl tu)), (a3, .inl (cI, 24, .inl we)), (a5, .inl (cI, 4, .inl (fun i => nI ((updN per ii pn) i)))), (a6, .inl (cI, 4, .inl rea)), (a8, .inl (cI, 64, .inl rw)), (a12, .inl (cI, 16, .inl cp))] := hD
      refine lv_aload_n hx hb dX7_rest_38 rfl (lv_at hl 1 rfl) ?_
      refine va_get (D := D) (ci := 5) (v := .ref a6) (C := RX7) (T := TX7) (N := 16) hx hb hts hinX7 hown hK.1 hP 0 rfl rfl 6 (by decide) hf29 (fun _ h9 => h9) rfl dX7_rest_39 ?_
      refine lv_iload_n hx hb dX7_rest_42 rfl (lv_at hl 2 rfl) ?_
      refine lv_iconst (v := (-1)) hx hb dX7_rest_43 (by decide) ?_
      refine w_ast hx hb hK hP hD hS 5 0 rfl rfl (ii) rfl (by omega) (by omega) dX7_rest_44 (fun H locs hP hD hS => ?_)
      have hP : va_P D vwCl [(h, .inr (5, [.ref a0, .ref a1, .int (nI fn), .ref a3, .int (nI rn), .ref a5, .ref a6, .int (nI wn), .ref a8, .int (nI bs), .int re, .int ot, .ref a12, .long ab, .long be, .long hh])), (a0, .inl (cI, 6, .inl (fun i => nI (sn i)))), (a1, .inl (cI, 96, .inl tu)), (a3, .inl (cI, 24, .inl we)), (a5, .inl (cI, 4, .inl (fun i => nI ((updN per ii pn) i)))), (a6, .inl (cI, 4, .inl (upd rea ii (-1)))), (a8, .inl (cI, 64, .inl rw)), (a12, .inl (cI, 16, .inl cp))] H := hP
      have hD : va_D A [(h, .inr (5, [.ref a0, .ref a1, .int (nI fn), .ref a3, .int (nI rn), .ref a5, .ref a6, .int (nI wn), .ref a8, .int (nI bs), .int re, .int ot, .ref a12, .long ab, .long be, .long hh])), (a0, .inl (cI, 6, .inl (fun i => nI (sn i)))), (a1, .inl (cI, 96, .inl tu)), (a3, .inl (cI, 24, .inl we)), (a5, .inl (cI, 4, .inl (fun i => nI ((updN per ii pn) i)))), (a6, .inl (cI, 4, .inl (upd rea ii (-1)))), (a8, .inl (cI, 64, .inl rw)), (a12, .inl (cI, 16, .inl cp))] := hD
      refine lv_iload_n hx hb dX7_rest_45 rfl (lv_at hl 0 rfl) ?_
      subst hF
      subst hQ
      exact W.iret (v := nI (per ii)) hx hb hr (fun u9 ht hW => ⟨⟨_, (), rfl, rfl, by rw [← ht] at hP; exact hP⟩, hS.F ht⟩) hS.2.2 dX7_rest_46
    · rw [if_pos c18] at hF
      refine lv_bipush (v := (-102)) hx hb dX7_rest_21 (by decide) ?_
      subst hF
      subst hQ
      exact W.iret (v := (-102)) hx hb hr (fun u9 ht hW => ⟨⟨_, (), rfl, rfl, by rw [← ht] at hP; exact hP⟩, hS.F ht⟩) hS.2.2 dX7_rest_23
  · rw [if_pos c5] at hF
    refine lv_bipush (v := (-101)) hx hb dX7_rest_8 (by decide) ?_
    subst hF
    subst hQ
    exact W.iret (v := (-101)) hx hb hr (fun u9 ht hW => ⟨⟨_, (), rfl, rfl, by rw [← ht] at hP; exact hP⟩, hS.F ht⟩) hS.2.2 dX7_rest_10
def fX7_read (rn : Nat) (per : Nat → Nat) (rea : Nat → Int32) (xi : Int32) (xv : Int32) : Int32 × (Nat → Int32) := (if (fX7_isRest rn xi) = 0 then ((-101), rea) else (if (fX7_in xv (-1) ((nI (per (xi.toNatClampNeg))) - 1)) = 0 then ((-102), rea) else (rea (xi.toNatClampNeg), upd rea (xi.toNatClampNeg) xv)))
abbrev rmX7_read : Room := { frames := 2, cells := 0, slots := 0, locals := 43 }
set_option maxHeartbeats 4000000 in
set_option maxRecDepth 100000 in
theorem c_X7_read (l : Launch) (D : va_G) (cI : ClassId) (sz : Nat) (h : Nat) (a0 : Nat) (a1 : Nat) (a3 : Nat) (a5 : Nat) (a6 : Nat) (a8 : Nat) (a12 : Nat) (sn : Nat → Nat) (tu : Nat → Int32) (fn : Nat) (we : Nat → Int32) (rn : Nat) (per : Nat → Nat) (rea : Nat → Int32) (wn : Nat) (rw : Nat → Int32) (bs : Nat) (re : Int32) (ot : Int32) (cp : Nat → Int32) (ab : Int64) (be : Int64) (hh : Int64) (xi : Int32) (xv : Int32) (hrn : 1 ≤ rn ∧ rn ≤ 4) : Met l yX7_read wsX7_read rmX7_read (va_Pc [.ref h, .int xi, .int xv] (wrP D [(cI, .int)] [(h, .inr (5, [.ref a0, .ref a1, .int (nI fn), .ref a3, .int (nI rn), .ref a5, .ref a6, .int (nI wn), .ref a8, .int (nI bs), .int re, .int ot, .ref a12, .long ab, .long be, .long hh])), (a0, .inl (cI, 6, .inl (fun i => nI (sn i)))), (a1, .inl (cI, 96, .inl tu)), (a3, .inl (cI, 24, .inl we)), (a5, .inl (cI, 4, .inl (fun i => nI (per i)))), (a6, .inl (cI, 4, .inl rea)), (a8, .inl (cI, 64, .inl rw)), (a12, .inl (cI, 16, .inl cp))] sz)) (va_Qi (fun r9 (_ : Unit) => r9 = (fX7_read rn per rea xi xv).1) (fun _ u9 => va_P D vwCl [(h, .inr (5, [.ref a0, .ref a1, .int (nI fn), .ref a3, .int (nI rn), .ref a5, .ref a6, .int (nI wn), .ref a8, .int (nI bs), .int re, .int ot, .ref a12, .long ab, .long be, .long hh])), (a0, .inl (cI, 6, .inl (fun i => nI (sn i)))), (a1, .inl (cI, 96, .inl tu)), (a3, .inl (cI, 24, .inl we)), (a5, .inl (cI, 4, .inl (fun i => nI (per i)))), (a6, .inl (cI, 4, .inl ((fX7_read rn per rea xi xv).2))), (a8, .inl (cI, 64, .inl rw)), (a12, .inl (cI, 16, .inl cp))] u9.heap) (va_A [(h, .inr (5, [.ref a0, .ref a1, .int (nI fn), .ref a3, .int (nI rn), .ref a5, .ref a6, .int (nI wn), .ref a8, .int (nI bs), .int re, .int ot, .ref a12, .long ab, .long be, .long hh])), (a0, .inl (cI, 6, .inl (fun i => nI (sn i)))), (a1, .inl (cI, 96, .inl tu)), (a3, .inl (cI, 24, .inl we)), (a5, .inl (cI, 4, .inl (fun i => nI (per i)))), (a6, .inl (cI, 4, .inl rea)), (a8, .inl (cI, 64, .inl rw)), (a12, .inl (cI, 16, .inl cp))] sz)) 0 0 (va_A [(h, .inr (5, [.ref a0, .ref a1, .int (nI fn), .ref a3, .int (nI rn), .ref a5, .ref a6, .int (nI wn), .ref a8, .int (nI bs), .int re, .int ot, .ref a12, .long ab, .long be, .long hh])), (a0, .inl (cI, 6, .inl (fun i => nI (sn i)))), (a1, .inl (cI, 96, .inl tu)), (a3, .inl (cI, 24, .inl we)), (a5, .inl (cI, 4, .inl (fun i => nI (per i)))), (a6, .inl (cI, 4, .inl rea)), (a8, .inl (cI, 64, .inl rw)), (a12, .inl (cI, 16, .inl cp))] sz) := by
  generalize hF : fX7_read rn per rea xi xv = T
  refine Met.ofW (cc := cX7_read) (maxL := 4) (ret := (some .int)) (by decide) rfl ?_
  intro p e s m args below meth c s₁ B hml hv
  obtain ⟨rfl, hsz, hP, hK, hD0⟩ := hv
  have hx := B.exec
  have hb := B.bytes
  have hr := B.returns
  have hts := atoms_spec (ws := wsX7_read) B.pre
  have hown : s.vm.findClass RX7 = some m.cls := findClass_of_methodNamed B.named
  have hlocks := B.notSynchronized
  have hinX7 : ∀ w ∈ u_ws RX7 TX7 16, w ∈ wsX7_read := by decide +kernel
  have hf26 := hts (.fieldLink RX7 26 "PulseSignsModel" "restOf" "[I") (by decide +kernel)
  have hf29 := hts (.fieldLink RX7 29 "PulseSignsModel" "readOf" "[I") (by decide +kernel)
  subst hsz
  have hD := hD0.self (sz := s.heap.size)
  generalize hAe : va_A [(h, .inr (5, [.ref a0, .ref a1, .int (nI fn), .ref a3, .int (nI rn), .ref a5, .ref a6, .int (nI wn), .ref a8, .int (nI bs), .int re, .int ot, .ref a12, .long ab, .long be, .long hh])), (a0, .inl (cI, 6, .inl (fun i => nI (sn i)))), (a1, .inl (cI, 96, .inl tu)), (a3, .inl (cI, 24, .inl we)), (a5, .inl (cI, 4, .inl (fun i => nI (per i)))), (a6, .inl (cI, 4, .inl rea)), (a8, .inl (cI, 64, .inl rw)), (a12, .inl (cI, 16, .inl cp))] s.heap.size = A at hD ⊢
  have hA : ∀ q : Nat, s.heap.size ≤ q → A q := fun q h => by rw [← hAe]; exact Or.inr h
  have hS : va_S A s.heap s.heap [] := va_S.rf
  have hP : va_P D vwCl [(h, .inr (5, [.ref a0, .ref a1, .int (nI fn), .ref a3, .int (nI rn), .ref a5, .ref a6, .int (nI wn), .ref a8, .int (nI bs), .int re, .int ot, .ref a12, .long ab, .long be, .long hh])), (a0, .inl (cI, 6, .inl (fun i => nI (sn i)))), (a1, .inl (cI, 96, .inl tu)), (a3, .inl (cI, 24, .inl we)), (a5, .inl (cI, 4, .inl (fun i => nI (per i)))), (a6, .inl (cI, 4, .inl rea)), (a8, .inl (cI, 64, .inl rw)), (a12, .inl (cI, 16, .inl cp))] s.heap := hP
  have hl := lv_entry ([.ref h, .int xi, .int xv]) (n := 4) (Nat.le_of_ble_eq_true rfl)
  rw [lg_entry_eq]
  generalize (lg_sl ([.ref h, .int xi, .int xv]) ++ List.replicate (4 - (lg_sl ([.ref h, .int xi, .int xv])).length) Slot.unset).toArray = ls at hl ⊢
  refine w_Q (fun Q hQ => ?_)
  have hl : lv_has ls 4 [(0, .ref h), (1, .int xi), (2, .int xv)] := hl
  rw [fX7_read] at hF
  refine lv_aload_n hx hb dX7_read_0 rfl (lv_at hl 0 rfl) ?_
  refine lv_iload_n hx hb dX7_read_1 rfl (lv_at hl 1 rfl) ?_
  refine cs_i (va_runV (As := [.int xi]) (rest := []) ⟨hx, hb, hml, hown, hts⟩ (c_X7_isRest l D cI h a0 a1 a3 a5 a6 a8 a12 sn tu fn we rn per rea wn rw bs re ot cp ab be hh xi ) (cwV 1 hts gX7_read_X7_isRest rfl rfl rfl (by decide +kernel) ⟨(Nat.le_of_ble_eq_true rfl), (Nat.le_of_ble_eq_true rfl)⟩) (ro_preV hP hK rfl (q0 := 0) rfl) rfl rfl hl.1 rfl (lv_room (Nat.le_of_ble_eq_true rfl)) dX7_read_2 ⟨Nat.zero_le _, Nat.zero_le _⟩) ?_
  refine lv_if_ne (tgt := 11) hx hb dX7_read_5 (by decide) (fun c5 => ?_) (fun c5 => ?_)
  · rw [if_neg c5] at hF
    obtain ⟨ii, hii, rfl⟩ := in_m1 c5 (by omega)
    have e_ii : (nI ii).toNatClampNeg = ii := nI_clamp (by omega)
    try simp only [e_ii] at hF
    refine lv_iload_n hx hb dX7_read_11 rfl (lv_at hl 2 rfl) ?_
    refine lv_iconst (v := (-1)) hx hb dX7_read_12 (by decide) ?_
    refine lv_aload_n hx hb dX7_read_13 rfl (lv_at hl 0 rfl) ?_
    refine va_get (D := D) (ci := 5) (v := .ref a5) (C := RX7) (T := TX7) (N := 16) hx hb hts hinX7 hown hK.1 hP 0 rfl rfl 5 (by decide) hf26 (fun _ h9 => h9) rfl dX7_read_14 ?_
    refine lv_iload_n hx hb dX7_read_17 rfl (lv_at hl 1 rfl) ?_
    refine w_ald hx hb hK hP 4 0 rfl rfl (ii) rfl (by omega) (by omega) dX7_read_18 ?_
    refine lv_iconst (v := 1) hx hb dX7_read_19 (by decide) ?_
    refine lv_isub hx hb dX7_read_20 ?_
    have hPc := hP.sub (ws' := []) [] rfl
    refine cs_i (va_runS (As := [.int xv, .int (-1), .int ((nI (per ii)) - 1)]) (rest := []) ⟨hx, hb, hml, hown, hts⟩ (c_X7_in l D cI xv (-1) ((nI (per ii)) - 1) ) (va_cwS 3 hts gX7_read_X7_in rfl rfl rfl (by decide +kernel) ⟨(Nat.le_of_ble_eq_true rfl), (Nat.le_of_ble_eq_true rfl)⟩) (ro_pre hPc hK) rfl rfl hl.1 rfl (lv_room (Nat.le_of_ble_eq_true rfl)) dX7_read_21 ⟨Nat.zero_le _, Nat.zero_le _⟩) ?_
    refine lv_if_ne (tgt := 30) hx hb dX7_read_24 (by decide) (fun c24 => ?_) (fun c24 => ?_)
    · rw [if_neg c24] at hF
      refine lv_aload_n hx hb dX7_read_30 rfl (lv_at hl 0 rfl) ?_
      refine va_get (D := D) (ci := 5) (v := .ref a6) (C := RX7) (T := TX7) (N := 16) hx hb hts hinX7 hown hK.1 hP 0 rfl rfl 6 (by decide) hf29 (fun _ h9 => h9) rfl dX7_read_31 ?_
      refine lv_iload_n hx hb dX7_read_34 rfl (lv_at hl 1 rfl) ?_
      refine w_ald hx hb hK hP 5 0 rfl rfl (ii) rfl (by omega) (by omega) dX7_read_35 ?_
      refine lv_istore_n (lv' := [(3, .int (rea ii)), (0, .ref h), (1, .int (nI ii)), (2, .int xv)]) hx hb dX7_read_36 rfl hl (by decide) rfl (fun ls hl => ?_)
      refine lv_aload_n hx hb dX7_read_37 rfl (lv_at hl 1 rfl) ?_
      refine va_get (D := D) (ci := 5) (v := .ref a6) (C := RX7) (T := TX7) (N := 16) hx hb hts hinX7 hown hK.1 hP 0 rfl rfl 6 (by decide) hf29 (fun _ h9 => h9) rfl dX7_read_38 ?_
      refine lv_iload_n hx hb dX7_read_41 rfl (lv_at hl 2 rfl) ?_
      refine lv_iload_n hx hb dX7_read_42 rfl (lv_at hl 3 rfl) ?_
      refine w_ast hx hb hK hP hD hS 5 0 rfl rfl (ii) rfl (by omega) (by omega) dX7_read_43 (fun H locs hP hD hS => ?_)
      have hP : va_P D vwCl [(h, .inr (5, [.ref a0, .ref a1, .int (nI fn), .ref a3, .int (nI rn), .ref a5, .ref a6, .int (nI wn), .ref a8, .int (nI bs), .int re, .int ot, .ref a12, .long ab, .long be, .long hh])), (a0, .inl (cI, 6, .inl (fun i => nI (sn i)))), (a1, .inl (cI, 96, .inl tu)), (a3, .inl (cI, 24, .inl we)), (a5, .inl (cI, 4, .inl (fun i => nI (per i)))), (a6, .inl (cI, 4, .inl (upd rea ii xv))), (a8, .inl (cI, 64, .inl rw)), (a12, .inl (cI, 16, .inl cp))] H := hP
      have hD : va_D A [(h, .inr (5, [.ref a0, .ref a1, .int (nI fn), .ref a3, .int (nI rn), .ref a5, .ref a6, .int (nI wn), .ref a8, .int (nI bs), .int re, .int ot, .ref a12, .long ab, .long be, .long hh])), (a0, .inl (cI, 6, .inl (fun i => nI (sn i)))), (a1, .inl (cI, 96, .inl tu)), (a3, .inl (cI, 24, .inl we)), (a5, .inl (cI, 4, .inl (fun i => nI (per i)))), (a6, .inl (cI, 4, .inl (upd rea ii xv))), (a8, .inl (cI, 64, .inl rw)), (a12, .inl (cI, 16, .inl cp))] := hD
      refine lv_iload_n hx hb dX7_read_44 rfl (lv_at hl 0 rfl) ?_
      subst hF
      subst hQ
      exact W.iret (v := rea ii) hx hb hr (fun u9 ht hW => ⟨⟨_, (), rfl, rfl, by rw [← ht] at hP; exact hP⟩, hS.F ht⟩) hS.2.2 dX7_read_45
    · rw [if_pos c24] at hF
      refine lv_bipush (v := (-102)) hx hb dX7_read_27 (by decide) ?_
      subst hF
      subst hQ
      exact W.iret (v := (-102)) hx hb hr (fun u9 ht hW => ⟨⟨_, (), rfl, rfl, by rw [← ht] at hP; exact hP⟩, hS.F ht⟩) hS.2.2 dX7_read_29
  · rw [if_pos c5] at hF
    refine lv_bipush (v := (-101)) hx hb dX7_read_8 (by decide) ?_
    subst hF
    subst hQ
    exact W.iret (v := (-101)) hx hb hr (fun u9 ht hW => ⟨⟨_, (), rfl, rfl, by rw [← ht] at hP; exact hP⟩, hS.F ht⟩) hS.2.2 dX7_read_10
def F_X7_fold_15 (rn : Nat) (per : Nat → Nat) (xr : Int32) : Nat → Nat → (Nat → Int32) → (Int32 × (Nat → Int32))
  | 0, k15, rea => (nI rn, rea)
  | r15 + 1, k15, rea => F_X7_fold_15 rn per xr r15 (k15 + 1) (upd rea k15 (xr - xr / (nI (per k15)) * (nI (per k15))))
def fX7_fold (rn : Nat) (per : Nat → Nat) (rea : Nat → Int32) (xr : Int32) : Int32 × (Nat → Int32) := (if (fX7_in xr 0 1000000) = 0 then ((-102), rea) else F_X7_fold_15 rn per xr (rn - 0) 0 rea)
abbrev rmX7_fold : Room := { frames := 1, cells := 0, slots := 0, locals := 22 }
set_option maxHeartbeats 4000000 in
set_option maxRecDepth 100000 in
theorem c_X7_fold (l : Launch) (D : va_G) (cI : ClassId) (sz : Nat) (h : Nat) (a0 : Nat) (a1 : Nat) (a3 : Nat) (a5 : Nat) (a6 : Nat) (a8 : Nat) (a12 : Nat) (sn : Nat → Nat) (tu : Nat → Int32) (fn : Nat) (we : Nat → Int32) (rn : Nat) (per : Nat → Nat) (rea : Nat → Int32) (wn : Nat) (rw : Nat → Int32) (bs : Nat) (re : Int32) (ot : Int32) (cp : Nat → Int32) (ab : Int64) (be : Int64) (hh : Int64) (xr : Int32) (hrn : 1 ≤ rn ∧ rn ≤ 4) (hper : ∀ i, i < rn → 2 ≤ per i ∧ per i ≤ 60) : Met l yX7_fold wsX7_fold rmX7_fold (va_Pc [.ref h, .int xr] (wrP D [(cI, .int)] [(h, .inr (5, [.ref a0, .ref a1, .int (nI fn), .ref a3, .int (nI rn), .ref a5, .ref a6, .int (nI wn), .ref a8, .int (nI bs), .int re, .int ot, .ref a12, .long ab, .long be, .long hh])), (a0, .inl (cI, 6, .inl (fun i => nI (sn i)))), (a1, .inl (cI, 96, .inl tu)), (a3, .inl (cI, 24, .inl we)), (a5, .inl (cI, 4, .inl (fun i => nI (per i)))), (a6, .inl (cI, 4, .inl rea)), (a8, .inl (cI, 64, .inl rw)), (a12, .inl (cI, 16, .inl cp))] sz)) (va_Qi (fun r9 (_ : Unit) => r9 = (fX7_fold rn per rea xr).1) (fun _ u9 => va_P D vwCl [(h, .inr (5, [.ref a0, .ref a1, .int (nI fn), .ref a3, .int (nI rn), .ref a5, .ref a6, .int (nI wn), .ref a8, .int (nI bs), .int re, .int ot, .ref a12, .long ab, .long be, .long hh])), (a0, .inl (cI, 6, .inl (fun i => nI (sn i)))), (a1, .inl (cI, 96, .inl tu)), (a3, .inl (cI, 24, .inl we)), (a5, .inl (cI, 4, .inl (fun i => nI (per i)))), (a6, .inl (cI, 4, .inl ((fX7_fold rn per rea xr).2))), (a8, .inl (cI, 64, .inl rw)), (a12, .inl (cI, 16, .inl cp))] u9.heap) (va_A [(h, .inr (5, [.ref a0, .ref a1, .int (nI fn), .ref a3, .int (nI rn), .ref a5, .ref a6, .int (nI wn), .ref a8, .int (nI bs), .int re, .int ot, .ref a12, .long ab, .long be, .long hh])), (a0, .inl (cI, 6, .inl (fun i => nI (sn i)))), (a1, .inl (cI, 96, .inl tu)), (a3, .inl (cI, 24, .inl we)), (a5, .inl (cI, 4, .inl (fun i => nI (per i)))), (a6, .inl (cI, 4, .inl rea)), (a8, .inl (cI, 64, .inl rw)), (a12, .inl (cI, 16, .inl cp))] sz)) 0 0 (va_A [(h, .inr (5, [.ref a0, .ref a1, .int (nI fn), .ref a3, .int (nI rn), .ref a5, .ref a6, .int (nI wn), .ref a8, .int (nI bs), .int re, .int ot, .ref a12, .long ab, .long be, .long hh])), (a0, .inl (cI, 6, .inl (fun i => nI (sn i)))), (a1, .inl (cI, 96, .inl tu)), (a3, .inl (cI, 24, .inl we)), (a5, .inl (cI, 4, .inl (fun i => nI (per i)))), (a6, .inl (cI, 4, .inl rea)), (a8, .inl (cI, 64, .inl rw)), (a12, .inl (cI, 16, .inl cp))] sz) := by
  generalize hF : fX7_fold rn per rea xr = T
  refine Met.ofW (cc := cX7_fold) (maxL := 3) (ret := (some .int)) (by decide) rfl ?_
  intro p e s m args below meth c s₁ B hml hv
  obtain ⟨rfl, hsz, hP, hK, hD0⟩ := hv
  have hx := B.exec
  have hb := B.bytes
  have hr := B.returns
  have hts := atoms_spec (ws := wsX7_fold) B.pre
  have hown : s.vm.findClass RX7 = some m.cls := findClass_of_methodNamed B.named
  have hlocks := B.notSynchronized
  have hinX7 : ∀ w ∈ u_ws RX7 TX7 16, w ∈ wsX7_fold := by decide +kernel
  have hcst83 := hts (.constant RX7 83 1000000) (by decide +kernel)
  have hf23 := hts (.fieldLink RX7 23 "PulseSignsModel" "restMany" "I") (by decide +kernel)
  have hf29 := hts (.fieldLink RX7 29 "PulseSignsModel" "readOf" "[I") (by decide +kernel)
  have hf26 := hts (.fieldLink RX7 26 "PulseSignsModel" "restOf" "[I") (by decide +kernel)
  subst hsz
  have hD := hD0.self (sz := s.heap.size)
  generalize hAe : va_A [(h, .inr (5, [.ref a0, .ref a1, .int (nI fn), .ref a3, .int (nI rn), .ref a5, .ref a6, .int (nI wn), .ref a8, .int (nI bs), .int re, .int ot, .ref a12, .long ab, .long be, .long hh])), (a0, .inl (cI, 6, .inl (fun i => nI (sn i)))), (a1, .inl (cI, 96, .inl tu)), (a3, .inl (cI, 24, .inl we)), (a5, .inl (cI, 4, .inl (fun i => nI (per i)))), (a6, .inl (cI, 4, .inl rea)), (a8, .inl (cI, 64, .inl rw)), (a12, .inl (cI, 16, .inl cp))] s.heap.size = A at hD ⊢
  have hA : ∀ q : Nat, s.heap.size ≤ q → A q := fun q h => by rw [← hAe]; exact Or.inr h
  have hS : va_S A s.heap s.heap [] := va_S.rf
  have hP : va_P D vwCl [(h, .inr (5, [.ref a0, .ref a1, .int (nI fn), .ref a3, .int (nI rn), .ref a5, .ref a6, .int (nI wn), .ref a8, .int (nI bs), .int re, .int ot, .ref a12, .long ab, .long be, .long hh])), (a0, .inl (cI, 6, .inl (fun i => nI (sn i)))), (a1, .inl (cI, 96, .inl tu)), (a3, .inl (cI, 24, .inl we)), (a5, .inl (cI, 4, .inl (fun i => nI (per i)))), (a6, .inl (cI, 4, .inl rea)), (a8, .inl (cI, 64, .inl rw)), (a12, .inl (cI, 16, .inl cp))] s.heap := hP
  have hl := lv_entry ([.ref h, .int xr]) (n := 3) (Nat.le_of_ble_eq_true rfl)
  rw [lg_entry_eq]
  generalize (lg_sl ([.ref h, .int xr]) ++ List.replicate (3 - (lg_sl ([.ref h, .int xr])).length) Slot.unset).toArray = ls at hl ⊢
  refine w_Q (fun Q hQ => ?_)
  have hl : lv_has ls 3 [(0, .ref h), (1, .int xr)] := hl
  rw [fX7_fold] at hF
  refine lv_iload_n hx hb dX7_fold_0 rfl (lv_at hl 1 rfl) ?_
  refine lv_iconst (v := 0) hx hb dX7_fold_1 (by decide) ?_
  refine lv_ldc (v := 1000000) hx hb hown hcst83 dX7_fold_2 ?_
  have hPc := hP.sub (ws' := []) [] rfl
  refine cs_i (va_runS (As := [.int xr, .int 0, .int 1000000]) (rest := []) ⟨hx, hb, hml, hown, hts⟩ (c_X7_in l D cI xr 0 1000000 ) (va_cwS 3 hts gX7_fold_X7_in rfl rfl rfl (by decide +kernel) ⟨(Nat.le_of_ble_eq_true rfl), (Nat.le_of_ble_eq_true rfl)⟩) (ro_pre hPc hK) rfl rfl hl.1 rfl (lv_room (Nat.le_of_ble_eq_true rfl)) dX7_fold_4 ⟨Nat.zero_le _, Nat.zero_le _⟩) ?_
  refine lv_if_ne (tgt := 13) hx hb dX7_fold_7 (by decide) (fun c7 => ?_) (fun c7 => ?_)
  · rw [if_neg c7] at hF
    refine lv_iconst (v := 0) hx hb dX7_fold_13 (by decide) ?_
    refine lv_istore_n (lv' := [(2, .int 0), (0, .ref h), (1, .int xr)]) hx hb dX7_fold_14 rfl hl (by decide) rfl (fun ls hl => ?_)
    have lp15 : ∀ (r15 k15 : Nat) (rea : Nat → Int32) (H : Heap) (locs : List Loc) (ls : Array Slot), r15 = rn - k15 → k15 ≤ rn + 1 → va_P D vwCl [(h, .inr (5, [.ref a0, .ref a1, .int (nI fn), .ref a3, .int (nI rn), .ref a5, .ref a6, .int (nI wn), .ref a8, .int (nI bs), .int re, .int ot, .ref a12, .long ab, .long be, .long hh])), (a0, .inl (cI, 6, .inl (fun i => nI (sn i)))), (a1, .inl (cI, 96, .inl tu)), (a3, .inl (cI, 24, .inl we)), (a5, .inl (cI, 4, .inl (fun i => nI (per i)))), (a6, .inl (cI, 4, .inl rea)), (a8, .inl (cI, 64, .inl rw)), (a12, .inl (cI, 16, .inl cp))] H → va_D A [(h, .inr (5, [.ref a0, .ref a1, .int (nI fn), .ref a3, .int (nI rn), .ref a5, .ref a6, .int (nI wn), .ref a8, .int (nI bs), .int re, .int ot, .ref a12, .long ab, .long be, .long hh])), (a0, .inl (cI, 6, .inl (fun i => nI (sn i)))), (a1, .inl (cI, 96, .inl tu)), (a3, .inl (cI, 24, .inl we)), (a5, .inl (cI, 4, .inl (fun i => nI (per i)))), (a6, .inl (cI, 4, .inl rea)), (a8, .inl (cI, 64, .inl rw)), (a12, .inl (cI, 16, .inl cp))] → va_S A s.heap H locs → lv_has ls 3 [(0, .ref h), (1, .int xr), (2, .int (nI k15))] → F_X7_fold_15 rn per xr r15 k15 rea = T → W p l e (headSpec wsX7_fold rmX7_fold).room s m ([.ref h, .int xr] : List Value).toArray below meth c H locs 0 0 Q (F0 m 15 ls []) := by
      intro r15
      induction r15 with
      | zero =>
        intro k15 rea H locs ls hi15_0 hi15_1 hP hD hS hl hF
        rw [F_X7_fold_15] at hF
        refine lv_iload_n hx hb dX7_fold_15 rfl (lv_at hl 2 rfl) ?_
        refine lv_aload_n hx hb dX7_fold_16 rfl (lv_at hl 0 rfl) ?_
        refine va_get (D := D) (ci := 5) (v := .int (nI rn)) (C := RX7) (T := TX7) (N := 16) hx hb hts hinX7 hown hK.1 hP 0 rfl rfl 4 (by decide) hf23 (fun _ h9 => h9) rfl dX7_fold_17 ?_
        refine lv_icmp_ge (tgt := 43) hx hb dX7_fold_20 (by decide) (fun c20 => ?_) (fun c20 => ?_)
        · skip
          refine lv_aload_n hx hb dX7_fold_43 rfl (lv_at hl 0 rfl) ?_
          refine va_get (D := D) (ci := 5) (v := .int (nI rn)) (C := RX7) (T := TX7) (N := 16) hx hb hts hinX7 hown hK.1 hP 0 rfl rfl 4 (by decide) hf23 (fun _ h9 => h9) rfl dX7_fold_44 ?_
          subst hF
          subst hQ
          exact W.iret (v := nI rn) hx hb hr (fun u9 ht hW => ⟨⟨_, (), rfl, rfl, by rw [← ht] at hP; exact hP⟩, hS.F ht⟩) hS.2.2 dX7_fold_47
        · exact False.elim (c20 (nI_le (a := rn) (b := k15) (by omega) (by omega)))
      | succ r15 ih15 =>
        intro k15 rea H locs ls hi15_0 hi15_1 hP hD hS hl hF
        rw [F_X7_fold_15] at hF
        refine lv_iload_n hx hb dX7_fold_15 rfl (lv_at hl 2 rfl) ?_
        refine lv_aload_n hx hb dX7_fold_16 rfl (lv_at hl 0 rfl) ?_
        refine va_get (D := D) (ci := 5) (v := .int (nI rn)) (C := RX7) (T := TX7) (N := 16) hx hb hts hinX7 hown hK.1 hP 0 rfl rfl 4 (by decide) hf23 (fun _ h9 => h9) rfl dX7_fold_17 ?_
        refine lv_icmp_ge (tgt := 43) hx hb dX7_fold_20 (by decide) (fun c20 => ?_) (fun c20 => ?_)
        · exact False.elim (nI_ge (a := k15) (b := rn) (by omega) (by omega) c20)
        · skip
          refine lv_aload_n hx hb dX7_fold_23 rfl (lv_at hl 0 rfl) ?_
          refine va_get (D := D) (ci := 5) (v := .ref a6) (C := RX7) (T := TX7) (N := 16) hx hb hts hinX7 hown hK.1 hP 0 rfl rfl 6 (by decide) hf29 (fun _ h9 => h9) rfl dX7_fold_24 ?_
          refine lv_iload_n hx hb dX7_fold_27 rfl (lv_at hl 2 rfl) ?_
          refine lv_iload_n hx hb dX7_fold_28 rfl (lv_at hl 1 rfl) ?_
          refine lv_aload_n hx hb dX7_fold_29 rfl (lv_at hl 0 rfl) ?_
          refine va_get (D := D) (ci := 5) (v := .ref a5) (C := RX7) (T := TX7) (N := 16) hx hb hts hinX7 hown hK.1 hP 0 rfl rfl 5 (by decide) hf26 (fun _ h9 => h9) rfl dX7_fold_30 ?_
          refine lv_iload_n hx hb dX7_fold_33 rfl (lv_at hl 2 rfl) ?_
          refine w_ald hx hb hK hP 4 0 rfl rfl (k15) rfl (by omega) (by omega) dX7_fold_34 ?_
          refine lv_irem hx hb dX7_fold_35 (by have := hper k15 (by omega); exact nI_ne0 (by omega) (by omega)) ?_
          refine w_ast hx hb hK hP hD hS 5 0 rfl rfl (k15) rfl (by omega) (by omega) dX7_fold_36 (fun H locs hP hD hS => ?_)
          have hP : va_P D vwCl [(h, .inr (5, [.ref a0, .ref a1, .int (nI fn), .ref a3, .int (nI rn), .ref a5, .ref a6, .int (nI wn), .ref a8, .int (nI bs), .int re, .int ot, .ref a12, .long ab, .long be, .long hh])), (a0, .inl (cI, 6, .inl (fun i => nI (sn i)))), (a1, .inl (cI, 96, .inl tu)), (a3, .inl (cI, 24, .inl we)), (a5, .inl (cI, 4, .inl (fun i => nI (per i)))), (a6, .inl (cI, 4, .inl (upd rea k15 (xr - xr / (nI (per k15)) * (nI (per k15)))))), (a8, .inl (cI, 64, .inl rw)), (a12, .inl (cI, 16, .inl cp))] H := hP
          have hD : va_D A [(h, .inr (5, [.ref a0, .ref a1, .int (nI fn), .ref a3, .int (nI rn), .ref a5, .ref a6, .int (nI wn), .ref a8, .int (nI bs), .int re, .int ot, .ref a12, .long ab, .long be, .long hh])), (a0, .inl (cI, 6, .inl (fun i => nI (sn i)))), (a1, .inl (cI, 96, .inl tu)), (a3, .inl (cI, 24, .inl we)), (a5, .inl (cI, 4, .inl (fun i => nI (per i)))), (a6, .inl (cI, 4, .inl (upd rea k15 (xr - xr / (nI (per k15)) * (nI (per k15)))))), (a8, .inl (cI, 64, .inl rw)), (a12, .inl (cI, 16, .inl cp))] := hD
          refine lv_iinc (v := nI (k15 + 1)) (lv' := [(2, .int (nI (k15 + 1))), (0, .ref h), (1, .int xr)]) hx hb dX7_fold_37 hl (k := 2) rfl (nI_1 _) (by decide) rfl (fun ls hl => ?_)
          refine lv_goto (tgt := 15) hx hb dX7_fold_40 (by decide) ?_
          exact ih15 (k15 + 1) (upd rea k15 (xr - xr / (nI (per k15)) * (nI (per k15)))) H locs ls (by omega) (by omega) hP hD hS (lv_sub hl [1, 2, 0] rfl) hF
    exact lp15 (rn - 0) 0 rea s.heap _ ls rfl (by omega) hP hD hS (lv_sub hl [1, 2, 0] rfl) hF
  · rw [if_pos c7] at hF
    refine lv_bipush (v := (-102)) hx hb dX7_fold_10 (by decide) ?_
    subst hF
    subst hQ
    exact W.iret (v := (-102)) hx hb hr (fun u9 ht hW => ⟨⟨_, (), rfl, rfl, by rw [← ht] at hP; exact hP⟩, hS.F ht⟩) hS.2.2 dX7_fold_12
def F_X7_fits_6 (per : Nat → Nat) (rea : Nat → Int32) (r : Int32) (er : Int32) (mm : Int32) : Nat → Nat → Int32 → Int32
  | 0, k6, x4 => (if x4 < mm then 0 else 1)
  | r6 + 1, k6, x4 => (if (rea k6) = (-1) then F_X7_fits_6 per rea r er mm r6 (k6 + 1) x4 else (if 0 ≤ ((r - r / (nI (per k6)) * (nI (per k6))) - (rea k6)) then (if ((r - r / (nI (per k6)) * (nI (per k6))) - (rea k6)) ≤ er then F_X7_fits_6 per rea r er mm r6 (k6 + 1) (x4 + 1) else (if er < ((nI (per k6)) - ((r - r / (nI (per k6)) * (nI (per k6))) - (rea k6))) then F_X7_fits_6 per rea r er mm r6 (k6 + 1) (x4 + 0) else F_X7_fits_6 per rea r er mm r6 (k6 + 1) (x4 + 1))) else (if (-((r - r / (nI (per k6)) * (nI (per k6))) - (rea k6))) ≤ er then F_X7_fits_6 per rea r er mm r6 (k6 + 1) (x4 + 1) else (if er < ((nI (per k6)) - (-((r - r / (nI (per k6)) * (nI (per k6))) - (rea k6)))) then F_X7_fits_6 per rea r er mm r6 (k6 + 1) (x4 + 0) else F_X7_fits_6 per rea r er mm r6 (k6 + 1) (x4 + 1)))))
def fX7_fits (rn : Nat) (per : Nat → Nat) (rea : Nat → Int32) (r : Int32) (er : Int32) (mm : Int32) : Int32 := F_X7_fits_6 per rea r er mm (rn - 0) 0 0
abbrev rmX7_fits : Room := { frames := 0, cells := 0, slots := 0, locals := 0 }
set_option maxHeartbeats 4000000 in
set_option maxRecDepth 100000 in
theorem c_X7_fits (l : Launch) (D : va_G) (cI : ClassId) (h : Nat) (a0 : Nat) (a1 : Nat) (a3 : Nat) (a5 : Nat) (a6 : Nat) (a8 : Nat) (a12 : Nat) (sn : Nat → Nat) (tu : Nat → Int32) (fn : Nat) (we : Nat → Int32) (rn : Nat) (per : Nat → Nat) (rea : Nat → Int32) (wn : Nat) (rw : Nat → Int32) (bs : Nat) (re : Int32) (ot : Int32) (cp : Nat → Int32) (ab : Int64) (be : Int64) (hh : Int64) (r : Int32) (er : Int32) (mm : Int32) (hrn : 1 ≤ rn ∧ rn ≤ 4) (hper : ∀ i, i < rn → 2 ≤ per i ∧ per i ≤ 60) : Met l yX7_fits wsX7_fits rmX7_fits (va_Pc [.ref h, .int r, .int er, .int mm] (roP D [(cI, .int)] [(h, .inr (5, [.ref a0, .ref a1, .int (nI fn), .ref a3, .int (nI rn), .ref a5, .ref a6, .int (nI wn), .ref a8, .int (nI bs), .int re, .int ot, .ref a12, .long ab, .long be, .long hh])), (a0, .inl (cI, 6, .inl (fun i => nI (sn i)))), (a1, .inl (cI, 96, .inl tu)), (a3, .inl (cI, 24, .inl we)), (a5, .inl (cI, 4, .inl (fun i => nI (per i)))), (a6, .inl (cI, 4, .inl rea)), (a8, .inl (cI, 64, .inl rw)), (a12, .inl (cI, 16, .inl cp))])) (vp_Si (fun r9 => r9 = fX7_fits rn per rea r er mm)) 0 0 (fun _ => False) := by
  generalize hF : fX7_fits rn per rea r er mm = T
  refine Met.ofW (cc := cX7_fits) (maxL := 7) (ret := (some .boolean)) (by decide) rfl ?_
  intro p e s m args below meth c s₁ B hml hv
  obtain ⟨rfl, hP, hK⟩ := hv
  have hx := B.exec
  have hb := B.bytes
  have hr := B.returns
  have hts := atoms_spec (ws := wsX7_fits) B.pre
  have hown : s.vm.findClass RX7 = some m.cls := findClass_of_methodNamed B.named
  have hlocks := B.notSynchronized
  have hinX7 : ∀ w ∈ u_ws RX7 TX7 16, w ∈ wsX7_fits := by decide +kernel
  have hf23 := hts (.fieldLink RX7 23 "PulseSignsModel" "restMany" "I") (by decide +kernel)
  have hf29 := hts (.fieldLink RX7 29 "PulseSignsModel" "readOf" "[I") (by decide +kernel)
  have hf26 := hts (.fieldLink RX7 26 "PulseSignsModel" "restOf" "[I") (by decide +kernel)
  have hl := lv_entry ([.ref h, .int r, .int er, .int mm]) (n := 7) (Nat.le_of_ble_eq_true rfl)
  rw [lg_entry_eq]
  generalize (lg_sl ([.ref h, .int r, .int er, .int mm]) ++ List.replicate (7 - (lg_sl ([.ref h, .int r, .int er, .int mm])).length) Slot.unset).toArray = ls at hl ⊢
  refine w_Q (fun Q hQ => ?_)
  have hl : lv_has ls 7 [(0, .ref h), (1, .int r), (2, .int er), (3, .int mm)] := hl
  rw [fX7_fits] at hF
  refine lv_iconst (v := 0) hx hb dX7_fits_0 (by decide) ?_
  refine lv_istore (lv' := [(4, .int 0), (0, .ref h), (1, .int r), (2, .int er), (3, .int mm)]) hx hb dX7_fits_1 hl (by decide) rfl (fun ls hl => ?_)
  refine lv_iconst (v := 0) hx hb dX7_fits_3 (by decide) ?_
  refine lv_istore (lv' := [(5, .int 0), (4, .int 0), (0, .ref h), (1, .int r), (2, .int er), (3, .int mm)]) hx hb dX7_fits_4 hl (by decide) rfl (fun ls hl => ?_)
  have lp6 : ∀ (r6 k6 : Nat) (x4 : Int32) (ls : Array Slot), r6 = rn - k6 → k6 ≤ rn + 1 → lv_has ls 7 [(0, .ref h), (1, .int r), (2, .int er), (3, .int mm), (4, .int x4), (5, .int (nI k6))] → F_X7_fits_6 per rea r er mm r6 k6 x4 = T → W p l e (headSpec wsX7_fits rmX7_fits).room s m ([.ref h, .int r, .int er, .int mm] : List Value).toArray below meth c s.heap [] 0 0 Q (F0 m 6 ls []) := by
    intro r6
    induction r6 with
    | zero =>
      intro k6 x4 ls hi6_0 hi6_1 hl hF
      rw [F_X7_fits_6] at hF
      refine lv_iload hx hb dX7_fits_6 (lv_at hl 5 rfl) ?_
      refine lv_aload_n hx hb dX7_fits_8 rfl (lv_at hl 0 rfl) ?_
      refine va_get (D := D) (ci := 5) (v := .int (nI rn)) (C := RX7) (T := TX7) (N := 16) hx hb hts hinX7 hown hK.1 hP 0 rfl rfl 4 (by decide) hf23 (fun _ h9 => h9) rfl dX7_fits_9 ?_
      refine lv_icmp_ge (tgt := 96) hx hb dX7_fits_12 (by decide) (fun c12 => ?_) (fun c12 => ?_)
      · skip
        refine lv_iload hx hb dX7_fits_96 (lv_at hl 4 rfl) ?_
        refine lv_iload_n hx hb dX7_fits_98 rfl (lv_at hl 3 rfl) ?_
        refine lv_icmp_lt (tgt := 106) hx hb dX7_fits_99 (by decide) (fun c99 => ?_) (fun c99 => ?_)
        · rw [if_pos c99] at hF
          refine lv_iconst (v := 0) hx hb dX7_fits_106 (by decide) ?_
          subst hQ
          exact W.zret (v := 0) (ty := .boolean) hx hb hr rfl (fun u9 ht hW => ⟨_, rfl, hF, ht⟩) (fun q hq => by cases hq) dX7_fits_107
        · rw [if_neg c99] at hF
          refine lv_iconst (v := 1) hx hb dX7_fits_102 (by decide) ?_
          refine lv_goto (tgt := 107) hx hb dX7_fits_103 (by decide) ?_
          subst hQ
          exact W.zret (v := 1) (ty := .boolean) hx hb hr rfl (fun u9 ht hW => ⟨_, rfl, hF, ht⟩) (fun q hq => by cases hq) dX7_fits_107
      · exact False.elim (c12 (nI_le (a := rn) (b := k6) (by omega) (by omega)))
    | succ r6 ih6 =>
      intro k6 x4 ls hi6_0 hi6_1 hl hF
      rw [F_X7_fits_6] at hF
      refine lv_iload hx hb dX7_fits_6 (lv_at hl 5 rfl) ?_
      refine lv_aload_n hx hb dX7_fits_8 rfl (lv_at hl 0 rfl) ?_
      refine va_get (D := D) (ci := 5) (v := .int (nI rn)) (C := RX7) (T := TX7) (N := 16) hx hb hts hinX7 hown hK.1 hP 0 rfl rfl 4 (by decide) hf23 (fun _ h9 => h9) rfl dX7_fits_9 ?_
      refine lv_icmp_ge (tgt := 96) hx hb dX7_fits_12 (by decide) (fun c12 => ?_) (fun c12 => ?_)
      · exact False.elim (nI_ge (a := k6) (b := rn) (by omega) (by omega) c12)
      · skip
        refine lv_aload_n hx hb dX7_fits_15 rfl (lv_at hl 0 rfl) ?_
        refine va_get (D := D) (ci := 5) (v := .ref a6) (C := RX7) (T := TX7) (N := 16) hx hb hts hinX7 hown hK.1 hP 0 rfl rfl 6 (by decide) hf29 (fun _ h9 => h9) rfl dX7_fits_16 ?_
        refine lv_iload hx hb dX7_fits_19 (lv_at hl 5 rfl) ?_
        refine w_ald hx hb hK hP 5 0 rfl rfl (k6) rfl (by omega) (by omega) dX7_fits_21 ?_
        refine lv_iconst (v := (-1)) hx hb dX7_fits_22 (by decide) ?_
        refine lv_icmp_eq (tgt := 90) hx hb dX7_fits_23 (by decide) (fun c23 => ?_) (fun c23 => ?_)
        · rw [if_pos c23] at hF
          refine lv_iinc (v := nI (k6 + 1)) (lv' := [(5, .int (nI (k6 + 1))), (0, .ref h), (1, .int r), (2, .int er), (3, .int mm), (4, .int x4)]) hx hb dX7_fits_90 hl (k := 5) rfl (nI_1 _) (by decide) rfl (fun ls hl => ?_)
          refine lv_goto (tgt := 6) hx hb dX7_fits_93 (by decide) ?_
          exact ih6 (k6 + 1) x4 ls (by omega) (by omega)  (lv_sub hl [1, 2, 3, 4, 5, 0] rfl) hF
        · rw [if_neg c23] at hF
          refine lv_iload_n hx hb dX7_fits_26 rfl (lv_at hl 1 rfl) ?_
          refine lv_aload_n hx hb dX7_fits_27 rfl (lv_at hl 0 rfl) ?_
          refine va_get (D := D) (ci := 5) (v := .ref a5) (C := RX7) (T := TX7) (N := 16) hx hb hts hinX7 hown hK.1 hP 0 rfl rfl 5 (by decide) hf26 (fun _ h9 => h9) rfl dX7_fits_28 ?_
          refine lv_iload hx hb dX7_fits_31 (lv_at hl 5 rfl) ?_
          refine w_ald hx hb hK hP 4 0 rfl rfl (k6) rfl (by omega) (by omega) dX7_fits_33 ?_
          refine lv_irem hx hb dX7_fits_34 (by have := hper k6 (by omega); exact nI_ne0 (by omega) (by omega)) ?_
          refine lv_aload_n hx hb dX7_fits_35 rfl (lv_at hl 0 rfl) ?_
          refine va_get (D := D) (ci := 5) (v := .ref a6) (C := RX7) (T := TX7) (N := 16) hx hb hts hinX7 hown hK.1 hP 0 rfl rfl 6 (by decide) hf29 (fun _ h9 => h9) rfl dX7_fits_36 ?_
          refine lv_iload hx hb dX7_fits_39 (lv_at hl 5 rfl) ?_
          refine w_ald hx hb hK hP 5 0 rfl rfl (k6) rfl (by omega) (by omega) dX7_fits_41 ?_
          refine lv_isub hx hb dX7_fits_42 ?_
          refine lv_istore (lv' := [(6, .int ((r - r / (nI (per k6)) * (nI (per k6))) - (rea k6))), (0, .ref h), (1, .int r), (2, .int er), (3, .int mm), (4, .int x4), (5, .int (nI k6))]) hx hb dX7_fits_43 hl (by decide) rfl (fun ls hl => ?_)
          refine lv_iload hx hb dX7_fits_45 (lv_at hl 0 rfl) ?_
          refine lv_if_ge (tgt := 56) hx hb dX7_fits_47 (by decide) (fun c47 => ?_) (fun c47 => ?_)
          · rw [if_pos c47] at hF
            refine lv_iload hx hb dX7_fits_56 (lv_at hl 0 rfl) ?_
            refine lv_istore (lv' := [(6, .int ((r - r / (nI (per k6)) * (nI (per k6))) - (rea k6))), (0, .ref h), (1, .int r), (2, .int er), (3, .int mm), (4, .int x4), (5, .int (nI k6))]) hx hb dX7_fits_58 hl (by decide) rfl (fun ls hl => ?_)
            refine lv_iload hx hb dX7_fits_60 (lv_at hl 5 rfl) ?_
            refine lv_iload hx hb dX7_fits_62 (lv_at hl 0 rfl) ?_
            refine lv_iload_n hx hb dX7_fits_64 rfl (lv_at hl 3 rfl) ?_
            refine lv_icmp_le (tgt := 82) hx hb dX7_fits_65 (by decide) (fun c65 => ?_) (fun c65 => ?_)
            · rw [if_pos c65] at hF
              refine lv_iconst (v := 1) hx hb dX7_fits_82 (by decide) ?_
              refine lv_goto (tgt := 87) hx hb dX7_fits_83 (by decide) ?_
              refine lv_iadd hx hb dX7_fits_87 ?_
              refine lv_istore (lv' := [(4, .int (x4 + 1)), (6, .int ((r - r / (nI (per k6)) * (nI (per k6))) - (rea k6))), (0, .ref h), (1, .int r), (2, .int er), (3, .int mm), (5, .int (nI k6))]) hx hb dX7_fits_88 hl (by decide) rfl (fun ls hl => ?_)
              refine lv_iinc (v := nI (k6 + 1)) (lv' := [(5, .int (nI (k6 + 1))), (4, .int (x4 + 1)), (6, .int ((r - r / (nI (per k6)) * (nI (per k6))) - (rea k6))), (0, .ref h), (1, .int r), (2, .int er), (3, .int mm)]) hx hb dX7_fits_90 hl (k := 6) rfl (nI_1 _) (by decide) rfl (fun ls hl => ?_)
              refine lv_goto (tgt := 6) hx hb dX7_fits_93 (by decide) ?_
              exact ih6 (k6 + 1) (x4 + 1) ls (by omega) (by omega)  (lv_sub hl [3, 4, 5, 6, 1, 0] rfl) hF
            · rw [if_neg c65] at hF
              refine lv_aload_n hx hb dX7_fits_68 rfl (lv_at hl 1 rfl) ?_
              refine va_get (D := D) (ci := 5) (v := .ref a5) (C := RX7) (T := TX7) (N := 16) hx hb hts hinX7 hown hK.1 hP 0 rfl rfl 5 (by decide) hf26 (fun _ h9 => h9) rfl dX7_fits_69 ?_
              refine lv_iload hx hb dX7_fits_72 (lv_at hl 6 rfl) ?_
              refine w_ald hx hb hK hP 4 0 rfl rfl (k6) rfl (by omega) (by omega) dX7_fits_74 ?_
              refine lv_iload hx hb dX7_fits_75 (lv_at hl 0 rfl) ?_
              refine lv_isub hx hb dX7_fits_77 ?_
              refine lv_iload_n hx hb dX7_fits_78 rfl (lv_at hl 3 rfl) ?_
              refine lv_icmp_gt (tgt := 86) hx hb dX7_fits_79 (by decide) (fun c79 => ?_) (fun c79 => ?_)
              · rw [if_pos c79] at hF
                refine lv_iconst (v := 0) hx hb dX7_fits_86 (by decide) ?_
                refine lv_iadd hx hb dX7_fits_87 ?_
                refine lv_istore (lv' := [(4, .int (x4 + 0)), (6, .int ((r - r / (nI (per k6)) * (nI (per k6))) - (rea k6))), (0, .ref h), (1, .int r), (2, .int er), (3, .int mm), (5, .int (nI k6))]) hx hb dX7_fits_88 hl (by decide) rfl (fun ls hl => ?_)
                refine lv_iinc (v := nI (k6 + 1)) (lv' := [(5, .int (nI (k6 + 1))), (4, .int (x4 + 0)), (6, .int ((r - r / (nI (per k6)) * (nI (per k6))) - (rea k6))), (0, .ref h), (1, .int r), (2, .int er), (3, .int mm)]) hx hb dX7_fits_90 hl (k := 6) rfl (nI_1 _) (by decide) rfl (fun ls hl => ?_)
                refine lv_goto (tgt := 6) hx hb dX7_fits_93 (by decide) ?_
                exact ih6 (k6 + 1) (x4 + 0) ls (by omega) (by omega)  (lv_sub hl [3, 4, 5, 6, 1, 0] rfl) hF
              · rw [if_neg c79] at hF
                refine lv_iconst (v := 1) hx hb dX7_fits_82 (by decide) ?_
                refine lv_goto (tgt := 87) hx hb dX7_fits_83 (by decide) ?_
                refine lv_iadd hx hb dX7_fits_87 ?_
                refine lv_istore (lv' := [(4, .int (x4 + 1)), (6, .int ((r - r / (nI (per k6)) * (nI (per k6))) - (rea k6))), (0, .ref h), (1, .int r), (2, .int er), (3, .int mm), (5, .int (nI k6))]) hx hb dX7_fits_88 hl (by decide) rfl (fun ls hl => ?_)
                refine lv_iinc (v := nI (k6 + 1)) (lv' := [(5, .int (nI (k6 + 1))), (4, .int (x4 + 1)), (6, .int ((r - r / (nI (per k6)) * (nI (per k6))) - (rea k6))), (0, .ref h), (1, .int r), (2, .int er), (3, .int mm)]) hx hb dX7_fits_90 hl (k := 6) rfl (nI_1 _) (by decide) rfl (fun ls hl => ?_)
                refine lv_goto (tgt := 6) hx hb dX7_fits_93 (by decide) ?_
                exact ih6 (k6 + 1) (x4 + 1) ls (by omega) (by omega)  (lv_sub hl [3, 4, 5, 6, 1, 0] rfl) hF
          · rw [if_neg c47] at hF
            refine lv_iload hx hb dX7_fits_50 (lv_at hl 0 rfl) ?_
            refine lv_ineg hx hb dX7_fits_52 ?_
            refine lv_goto (tgt := 58) hx hb dX7_fits_53 (by decide) ?_
            refine lv_istore (lv' := [(6, .int (-((r - r / (nI (per k6)) * (nI (per k6))) - (rea k6)))), (0, .ref h), (1, .int r), (2, .int er), (3, .int mm), (4, .int x4), (5, .int (nI k6))]) hx hb dX7_fits_58 hl (by decide) rfl (fun ls hl => ?_)
            refine lv_iload hx hb dX7_fits_60 (lv_at hl 5 rfl) ?_
            refine lv_iload hx hb dX7_fits_62 (lv_at hl 0 rfl) ?_
            refine lv_iload_n hx hb dX7_fits_64 rfl (lv_at hl 3 rfl) ?_
            refine lv_icmp_le (tgt := 82) hx hb dX7_fits_65 (by decide) (fun c65 => ?_) (fun c65 => ?_)
            · rw [if_pos c65] at hF
              refine lv_iconst (v := 1) hx hb dX7_fits_82 (by decide) ?_
              refine lv_goto (tgt := 87) hx hb dX7_fits_83 (by decide) ?_
              refine lv_iadd hx hb dX7_fits_87 ?_
              refine lv_istore (lv' := [(4, .int (x4 + 1)), (6, .int (-((r - r / (nI (per k6)) * (nI (per k6))) - (rea k6)))), (0, .ref h), (1, .int r), (2, .int er), (3, .int mm), (5, .int (nI k6))]) hx hb dX7_fits_88 hl (by decide) rfl (fun ls hl => ?_)
              refine lv_iinc (v := nI (k6 + 1)) (lv' := [(5, .int (nI (k6 + 1))), (4, .int (x4 + 1)), (6, .int (-((r - r / (nI (per k6)) * (nI (per k6))) - (rea k6)))), (0, .ref h), (1, .int r), (2, .int er), (3, .int mm)]) hx hb dX7_fits_90 hl (k := 6) rfl (nI_1 _) (by decide) rfl (fun ls hl => ?_)
              refine lv_goto (tgt := 6) hx hb dX7_fits_93 (by decide) ?_
              exact ih6 (k6 + 1) (x4 + 1) ls (by omega) (by omega)  (lv_sub hl [3, 4, 5, 6, 1, 0] rfl) hF
            · rw [if_neg c65] at hF
              refine lv_aload_n hx hb dX7_fits_68 rfl (lv_at hl 1 rfl) ?_
              refine va_get (D := D) (ci := 5) (v := .ref a5) (C := RX7) (T := TX7) (N := 16) hx hb hts hinX7 hown hK.1 hP 0 rfl rfl 5 (by decide) hf26 (fun _ h9 => h9) rfl dX7_fits_69 ?_
              refine lv_iload hx hb dX7_fits_72 (lv_at hl 6 rfl) ?_
              refine w_ald hx hb hK hP 4 0 rfl rfl (k6) rfl (by omega) (by omega) dX7_fits_74 ?_
              refine lv_iload hx hb dX7_fits_75 (lv_at hl 0 rfl) ?_
              refine lv_isub hx hb dX7_fits_77 ?_
              refine lv_iload_n hx hb dX7_fits_78 rfl (lv_at hl 3 rfl) ?_
              refine lv_icmp_gt (tgt := 86) hx hb dX7_fits_79 (by decide) (fun c79 => ?_) (fun c79 => ?_)
              · rw [if_pos c79] at hF
                refine lv_iconst (v := 0) hx hb dX7_fits_86 (by decide) ?_
                refine lv_iadd hx hb dX7_fits_87 ?_
                refine lv_istore (lv' := [(4, .int (x4 + 0)), (6, .int (-((r - r / (nI (per k6)) * (nI (per k6))) - (rea k6)))), (0, .ref h), (1, .int r), (2, .int er), (3, .int mm), (5, .int (nI k6))]) hx hb dX7_fits_88 hl (by decide) rfl (fun ls hl => ?_)
                refine lv_iinc (v := nI (k6 + 1)) (lv' := [(5, .int (nI (k6 + 1))), (4, .int (x4 + 0)), (6, .int (-((r - r / (nI (per k6)) * (nI (per k6))) - (rea k6)))), (0, .ref h), (1, .int r), (2, .int er), (3, .int mm)]) hx hb dX7_fits_90 hl (k := 6) rfl (nI_1 _) (by decide) rfl (fun ls hl => ?_)
                refine lv_goto (tgt := 6) hx hb dX7_fits_93 (by decide) ?_
                exact ih6 (k6 + 1) (x4 + 0) ls (by omega) (by omega)  (lv_sub hl [3, 4, 5, 6, 1, 0] rfl) hF
              · rw [if_neg c79] at hF
                refine lv_iconst (v := 1) hx hb dX7_fits_82 (by decide) ?_
                refine lv_goto (tgt := 87) hx hb dX7_fits_83 (by decide) ?_
                refine lv_iadd hx hb dX7_fits_87 ?_
                refine lv_istore (lv' := [(4, .int (x4 + 1)), (6, .int (-((r - r / (nI (per k6)) * (nI (per k6))) - (rea k6)))), (0, .ref h), (1, .int r), (2, .int er), (3, .int mm), (5, .int (nI k6))]) hx hb dX7_fits_88 hl (by decide) rfl (fun ls hl => ?_)
                refine lv_iinc (v := nI (k6 + 1)) (lv' := [(5, .int (nI (k6 + 1))), (4, .int (x4 + 1)), (6, .int (-((r - r / (nI (per k6)) * (nI (per k6))) - (rea k6)))), (0, .ref h), (1, .int r), (2, .int er), (3, .int mm)]) hx hb dX7_fits_90 hl (k := 6) rfl (nI_1 _) (by decide) rfl (fun ls hl => ?_)
                refine lv_goto (tgt := 6) hx hb dX7_fits_93 (by decide) ?_
                exact ih6 (k6 + 1) (x4 + 1) ls (by omega) (by omega)  (lv_sub hl [3, 4, 5, 6, 1, 0] rfl) hF
  exact lp6 (rn - 0) 0 0 ls rfl (by omega)  (lv_sub hl [2, 3, 4, 5, 1, 0] rfl) hF
def fX7_isAsked (er : Int32) (mm : Int32) (sp : Int32) : Int32 := (if (fX7_in er 0 5) = 0 then 0 else (if (fX7_in mm 1 4) = 0 then 0 else (if (fX7_in sp 1 5000) = 0 then 0 else 1)))
abbrev rmX7_isAsked : Room := { frames := 1, cells := 0, slots := 0, locals := 22 }
set_option maxHeartbeats 4000000 in
set_option maxRecDepth 100000 in
theorem c_X7_isAsked (l : Launch) (D : va_G) (cI : ClassId) (er : Int32) (mm : Int32) (sp : Int32)  : Met l yX7_isAsked wsX7_isAsked rmX7_isAsked (va_Pc [.int er, .int mm, .int sp] (roP D [(cI, .int)] [])) (vp_Si (fun r9 => r9 = fX7_isAsked er mm sp)) 0 0 (fun _ => False) := by
  generalize hF : fX7_isAsked er mm sp = T
  refine Met.ofW (cc := cX7_isAsked) (maxL := 3) (ret := (some .boolean)) (by decide) rfl ?_
  intro p e s m args below meth c s₁ B hml hv
  obtain ⟨rfl, hP, hK⟩ := hv
  have hx := B.exec
  have hb := B.bytes
  have hr := B.returns
  have hts := atoms_spec (ws := wsX7_isAsked) B.pre
  have hown : s.vm.findClass RX7 = some m.cls := findClass_of_methodNamed B.named
  have hlocks := B.notSynchronized
  have hl := lv_entry ([.int er, .int mm, .int sp]) (n := 3) (Nat.le_of_ble_eq_true rfl)
  rw [lg_entry_eq]
  generalize (lg_sl ([.int er, .int mm, .int sp]) ++ List.replicate (3 - (lg_sl ([.int er, .int mm, .int sp])).length) Slot.unset).toArray = ls at hl ⊢
  refine w_Q (fun Q hQ => ?_)
  have hl : lv_has ls 3 [(0, .int er), (1, .int mm), (2, .int sp)] := hl
  rw [fX7_isAsked] at hF
  refine lv_iload_n hx hb dX7_isAsked_0 rfl (lv_at hl 0 rfl) ?_
  refine lv_iconst (v := 0) hx hb dX7_isAsked_1 (by decide) ?_
  refine lv_iconst (v := 5) hx hb dX7_isAsked_2 (by decide) ?_
  refine cs_i (va_runS (As := [.int er, .int 0, .int 5]) (rest := []) ⟨hx, hb, hml, hown, hts⟩ (c_X7_in l D cI er 0 5 ) (va_cwS 3 hts gX7_isAsked_X7_in rfl rfl rfl (by decide +kernel) ⟨(Nat.le_of_ble_eq_true rfl), (Nat.le_of_ble_eq_true rfl)⟩) (ro_pre hP hK) rfl rfl hl.1 rfl (lv_room (Nat.le_of_ble_eq_true rfl)) dX7_isAsked_3 ⟨Nat.zero_le _, Nat.zero_le _⟩) ?_
  refine lv_if_eq (tgt := 33) hx hb dX7_isAsked_6 (by decide) (fun c6 => ?_) (fun c6 => ?_)
  · rw [if_pos c6] at hF
    refine lv_iconst (v := 0) hx hb dX7_isAsked_33 (by decide) ?_
    subst hQ
    exact W.zret (v := 0) (ty := .boolean) hx hb hr rfl (fun u9 ht hW => ⟨_, rfl, hF, ht⟩) (fun q hq => by cases hq) dX7_isAsked_34
  · rw [if_neg c6] at hF
    refine lv_iload_n hx hb dX7_isAsked_9 rfl (lv_at hl 1 rfl) ?_
    refine lv_iconst (v := 1) hx hb dX7_isAsked_10 (by decide) ?_
    refine lv_iconst (v := 4) hx hb dX7_isAsked_11 (by decide) ?_
    refine cs_i (va_runS (As := [.int mm, .int 1, .int 4]) (rest := []) ⟨hx, hb, hml, hown, hts⟩ (c_X7_in l D cI mm 1 4 ) (va_cwS 3 hts gX7_isAsked_X7_in rfl rfl rfl (by decide +kernel) ⟨(Nat.le_of_ble_eq_true rfl), (Nat.le_of_ble_eq_true rfl)⟩) (ro_pre hP hK) rfl rfl hl.1 rfl (lv_room (Nat.le_of_ble_eq_true rfl)) dX7_isAsked_12 ⟨Nat.zero_le _, Nat.zero_le _⟩) ?_
    refine lv_if_eq (tgt := 33) hx hb dX7_isAsked_15 (by decide) (fun c15 => ?_) (fun c15 => ?_)
    · rw [if_pos c15] at hF
      refine lv_iconst (v := 0) hx hb dX7_isAsked_33 (by decide) ?_
      subst hQ
      exact W.zret (v := 0) (ty := .boolean) hx hb hr rfl (fun u9 ht hW => ⟨_, rfl, hF, ht⟩) (fun q hq => by cases hq) dX7_isAsked_34
    · rw [if_neg c15] at hF
      refine lv_iload_n hx hb dX7_isAsked_18 rfl (lv_at hl 2 rfl) ?_
      refine lv_iconst (v := 1) hx hb dX7_isAsked_19 (by decide) ?_
      refine lv_sipush (v := 5000) hx hb dX7_isAsked_20 (by decide) ?_
      refine cs_i (va_runS (As := [.int sp, .int 1, .int 5000]) (rest := []) ⟨hx, hb, hml, hown, hts⟩ (c_X7_in l D cI sp 1 5000 ) (va_cwS 3 hts gX7_isAsked_X7_in rfl rfl rfl (by decide +kernel) ⟨(Nat.le_of_ble_eq_true rfl), (Nat.le_of_ble_eq_true rfl)⟩) (ro_pre hP hK) rfl rfl hl.1 rfl (lv_room (Nat.le_of_ble_eq_true rfl)) dX7_isAsked_23 ⟨Nat.zero_le _, Nat.zero_le _⟩) ?_
      refine lv_if_eq (tgt := 33) hx hb dX7_isAsked_26 (by decide) (fun c26 => ?_) (fun c26 => ?_)
      · rw [if_pos c26] at hF
        refine lv_iconst (v := 0) hx hb dX7_isAsked_33 (by decide) ?_
        subst hQ
        exact W.zret (v := 0) (ty := .boolean) hx hb hr rfl (fun u9 ht hW => ⟨_, rfl, hF, ht⟩) (fun q hq => by cases hq) dX7_isAsked_34
      · rw [if_neg c26] at hF
        refine lv_iconst (v := 1) hx hb dX7_isAsked_29 (by decide) ?_
        refine lv_goto (tgt := 34) hx hb dX7_isAsked_30 (by decide) ?_
        subst hQ
        exact W.zret (v := 1) (ty := .boolean) hx hb hr rfl (fun u9 ht hW => ⟨_, rfl, hF, ht⟩) (fun q hq => by cases hq) dX7_isAsked_34
theorem asked_nat {er mm xs : Int32} (h : ¬ fX7_isAsked er mm xs = 0) : ∃ sp, 1 ≤ sp ∧ sp ≤ 5000 ∧ xs = nI sp := by
  unfold fX7_isAsked at h
  split at h
  · exact absurd rfl h
  · split at h
    · exact absurd rfl h
    · split at h
      · exact absurd rfl h
      · next h3 => exact in_nat (a := 1) (b := 5000) h3 (by omega)
def F_X7_unfold_18 (rn : Nat) (per : Nat → Nat) (rea : Nat → Int32) (er : Int32) (mm : Int32) : Nat → Nat → Int32 → Int32
  | 0, k18, x4 => x4
  | r18 + 1, k18, x4 => (if (fX7_fits rn per rea (nI k18) er mm) = 0 then F_X7_unfold_18 rn per rea er mm r18 (k18 + 1) (x4 + 0) else F_X7_unfold_18 rn per rea er mm r18 (k18 + 1) (x4 + 1))
def fX7_unfold (rn : Nat) (per : Nat → Nat) (rea : Nat → Int32) (er : Int32) (mm : Int32) (xs : Int32) : Int32 := (if (fX7_isAsked er mm xs) = 0 then (-102) else F_X7_unfold_18 rn per rea er mm ((xs.toNatClampNeg) - 0) 0 0)
abbrev rmX7_unfold : Room := { frames := 2, cells := 0, slots := 0, locals := 44 }
set_option maxHeartbeats 4000000 in
set_option maxRecDepth 100000 in
theorem c_X7_unfold (l : Launch) (D : va_G) (cI : ClassId) (h : Nat) (a0 : Nat) (a1 : Nat) (a3 : Nat) (a5 : Nat) (a6 : Nat) (a8 : Nat) (a12 : Nat) (sn : Nat → Nat) (tu : Nat → Int32) (fn : Nat) (we : Nat → Int32) (rn : Nat) (per : Nat → Nat) (rea : Nat → Int32) (wn : Nat) (rw : Nat → Int32) (bs : Nat) (re : Int32) (ot : Int32) (cp : Nat → Int32) (ab : Int64) (be : Int64) (hh : Int64) (er : Int32) (mm : Int32) (xs : Int32) (hrn : 1 ≤ rn ∧ rn ≤ 4) (hper : ∀ i, i < rn → 2 ≤ per i ∧ per i ≤ 60) : Met l yX7_unfold wsX7_unfold rmX7_unfold (va_Pc [.ref h, .int er, .int mm, .int xs] (roP D [(cI, .int)] [(h, .inr (5, [.ref a0, .ref a1, .int (nI fn), .ref a3, .int (nI rn), .ref a5, .ref a6, .int (nI wn), .ref a8, .int (nI bs), .int re, .int ot, .ref a12, .long ab, .long be, .long hh])), (a0, .inl (cI, 6, .inl (fun i => nI (sn i)))), (a1, .inl (cI, 96, .inl tu)), (a3, .inl (cI, 24, .inl we)), (a5, .inl (cI, 4, .inl (fun i => nI (per i)))), (a6, .inl (cI, 4, .inl rea)), (a8, .inl (cI, 64, .inl rw)), (a12, .inl (cI, 16, .inl cp))])) (vp_Si (fun r9 => r9 = fX7_unfold rn per rea er mm xs)) 0 0 (fun _ => False) := by
  generalize hF : fX7_unfold rn per rea er mm xs = T
  refine Met.ofW (cc := cX7_unfold) (maxL := 6) (ret := (some .int)) (by decide) rfl ?_
  intro p e s m args below meth c s₁ B hml hv
  obtain ⟨rfl, hP, hK⟩ := hv
  have hx := B.exec
  have hb := B.bytes
  have hr := B.returns
  have hts := atoms_spec (ws := wsX7_unfold) B.pre
  have hown : s.vm.findClass RX7 = some m.cls := findClass_of_methodNamed B.named
  have hlocks := B.notSynchronized
  have hl := lv_entry ([.ref h, .int er, .int mm, .int xs]) (n := 6) (Nat.le_of_ble_eq_true rfl)
  rw [lg_entry_eq]
  generalize (lg_sl ([.ref h, .int er, .int mm, .int xs]) ++ List.replicate (6 - (lg_sl ([.ref h, .int er, .int mm, .int xs])).length) Slot.unset).toArray = ls at hl ⊢
  refine w_Q (fun Q hQ => ?_)
  have hl : lv_has ls 6 [(0, .ref h), (1, .int er), (2, .int mm), (3, .int xs)] := hl
  rw [fX7_unfold] at hF
  refine lv_iload_n hx hb dX7_unfold_0 rfl (lv_at hl 1 rfl) ?_
  refine lv_iload_n hx hb dX7_unfold_1 rfl (lv_at hl 2 rfl) ?_
  refine lv_iload_n hx hb dX7_unfold_2 rfl (lv_at hl 3 rfl) ?_
  have hPc := hP.sub (ws' := []) [] rfl
  refine cs_i (va_runS (As := [.int er, .int mm, .int xs]) (rest := []) ⟨hx, hb, hml, hown, hts⟩ (c_X7_isAsked l D cI er mm xs ) (va_cwS 3 hts gX7_unfold_X7_isAsked rfl rfl rfl (by decide +kernel) ⟨(Nat.le_of_ble_eq_true rfl), (Nat.le_of_ble_eq_true rfl)⟩) (ro_pre hPc hK) rfl rfl hl.1 rfl (lv_room (Nat.le_of_ble_eq_true rfl)) dX7_unfold_3 ⟨Nat.zero_le _, Nat.zero_le _⟩) ?_
  refine lv_if_ne (tgt := 12) hx hb dX7_unfold_6 (by decide) (fun c6 => ?_) (fun c6 => ?_)
  · rw [if_neg c6] at hF
    obtain ⟨sp, hsp1, hsp, rfl⟩ := asked_nat c6
    have e_sp : (nI sp).toNatClampNeg = sp := nI_clamp (by omega)
    try simp only [e_sp] at hF
    refine lv_iconst (v := 0) hx hb dX7_unfold_12 (by decide) ?_
    refine lv_istore (lv' := [(4, .int 0), (0, .ref h), (1, .int er), (2, .int mm), (3, .int (nI sp))]) hx hb dX7_unfold_13 hl (by decide) rfl (fun ls hl => ?_)
    refine lv_iconst (v := 0) hx hb dX7_unfold_15 (by decide) ?_
    refine lv_istore (lv' := [(5, .int 0), (4, .int 0), (0, .ref h), (1, .int er), (2, .int mm), (3, .int (nI sp))]) hx hb dX7_unfold_16 hl (by decide) rfl (fun ls hl => ?_)
    have lp18 : ∀ (r18 k18 : Nat) (x4 : Int32) (ls : Array Slot), r18 = sp - k18 → k18 ≤ sp + 1 → lv_has ls 6 [(0, .ref h), (1, .int er), (2, .int mm), (3, .int (nI sp)), (4, .int x4), (5, .int (nI k18))] → F_X7_unfold_18 rn per rea er mm r18 k18 x4 = T → W p l e (headSpec wsX7_unfold rmX7_unfold).room s m ([.ref h, .int er, .int mm, .int (nI sp)] : List Value).toArray below meth c s.heap [] 0 0 Q (F0 m 18 ls []) := by
      intro r18
      induction r18 with
      | zero =>
        intro k18 x4 ls hi18_0 hi18_1 hl hF
        rw [F_X7_unfold_18] at hF
        refine lv_iload hx hb dX7_unfold_18 (lv_at hl 5 rfl) ?_
        refine lv_iload_n hx hb dX7_unfold_20 rfl (lv_at hl 3 rfl) ?_
        refine lv_icmp_ge (tgt := 51) hx hb dX7_unfold_21 (by decide) (fun c21 => ?_) (fun c21 => ?_)
        · skip
          refine lv_iload hx hb dX7_unfold_51 (lv_at hl 4 rfl) ?_
          subst hQ
          exact W.iret (v := x4) hx hb hr (fun u9 ht hW => ⟨_, rfl, hF, ht⟩) (fun q hq => by cases hq) dX7_unfold_53
        · exact False.elim (c21 (nI_le (a := sp) (b := k18) (by omega) (by omega)))
      | succ r18 ih18 =>
        intro k18 x4 ls hi18_0 hi18_1 hl hF
        rw [F_X7_unfold_18] at hF
        refine lv_iload hx hb dX7_unfold_18 (lv_at hl 5 rfl) ?_
        refine lv_iload_n hx hb dX7_unfold_20 rfl (lv_at hl 3 rfl) ?_
        refine lv_icmp_ge (tgt := 51) hx hb dX7_unfold_21 (by decide) (fun c21 => ?_) (fun c21 => ?_)
        · exact False.elim (nI_ge (a := k18) (b := sp) (by omega) (by omega) c21)
        · skip
          refine lv_iload hx hb dX7_unfold_24 (lv_at hl 4 rfl) ?_
          refine lv_aload_n hx hb dX7_unfold_26 rfl (lv_at hl 0 rfl) ?_
          refine lv_iload hx hb dX7_unfold_27 (lv_at hl 5 rfl) ?_
          refine lv_iload_n hx hb dX7_unfold_29 rfl (lv_at hl 1 rfl) ?_
          refine lv_iload_n hx hb dX7_unfold_30 rfl (lv_at hl 2 rfl) ?_
          refine cs_i (va_runV (As := [.int (nI k18), .int er, .int mm]) (rest := [.int x4]) ⟨hx, hb, hml, hown, hts⟩ (c_X7_fits l D cI h a0 a1 a3 a5 a6 a8 a12 sn tu fn we rn per rea wn rw bs re ot cp ab be hh (nI k18) er mm (by first | assumption | omega) (by first | assumption | omega)) (cwV 3 hts gX7_unfold_X7_fits rfl rfl rfl (by decide +kernel) ⟨(Nat.le_of_ble_eq_true rfl), (Nat.le_of_ble_eq_true rfl)⟩) (ro_preV hP hK rfl (q0 := 0) rfl) rfl rfl hl.1 rfl (lv_room (Nat.le_of_ble_eq_true rfl)) dX7_unfold_31 ⟨Nat.zero_le _, Nat.zero_le _⟩) ?_
          refine lv_if_eq (tgt := 41) hx hb dX7_unfold_34 (by decide) (fun c34 => ?_) (fun c34 => ?_)
          · rw [if_pos c34] at hF
            refine lv_iconst (v := 0) hx hb dX7_unfold_41 (by decide) ?_
            refine lv_iadd hx hb dX7_unfold_42 ?_
            refine lv_istore (lv' := [(4, .int (x4 + 0)), (0, .ref h), (1, .int er), (2, .int mm), (3, .int (nI sp)), (5, .int (nI k18))]) hx hb dX7_unfold_43 hl (by decide) rfl (fun ls hl => ?_)
            refine lv_iinc (v := nI (k18 + 1)) (lv' := [(5, .int (nI (k18 + 1))), (4, .int (x4 + 0)), (0, .ref h), (1, .int er), (2, .int mm), (3, .int (nI sp))]) hx hb dX7_unfold_45 hl (k := 5) rfl (nI_1 _) (by decide) rfl (fun ls hl => ?_)
            refine lv_goto (tgt := 18) hx hb dX7_unfold_48 (by decide) ?_
            exact ih18 (k18 + 1) (x4 + 0) ls (by omega) (by omega)  (lv_sub hl [2, 3, 4, 5, 1, 0] rfl) hF
          · rw [if_neg c34] at hF
            refine lv_iconst (v := 1) hx hb dX7_unfold_37 (by decide) ?_
            refine lv_goto (tgt := 42) hx hb dX7_unfold_38 (by decide) ?_
            refine lv_iadd hx hb dX7_unfold_42 ?_
            refine lv_istore (lv' := [(4, .int (x4 + 1)), (0, .ref h), (1, .int er), (2, .int mm), (3, .int (nI sp)), (5, .int (nI k18))]) hx hb dX7_unfold_43 hl (by decide) rfl (fun ls hl => ?_)
            refine lv_iinc (v := nI (k18 + 1)) (lv' := [(5, .int (nI (k18 + 1))), (4, .int (x4 + 1)), (0, .ref h), (1, .int er), (2, .int mm), (3, .int (nI sp))]) hx hb dX7_unfold_45 hl (k := 5) rfl (nI_1 _) (by decide) rfl (fun ls hl => ?_)
            refine lv_goto (tgt := 18) hx hb dX7_unfold_48 (by decide) ?_
            exact ih18 (k18 + 1) (x4 + 1) ls (by omega) (by omega)  (lv_sub hl [2, 3, 4, 5, 1, 0] rfl) hF
    exact lp18 (sp - 0) 0 0 ls rfl (by omega)  (lv_sub hl [2, 3, 4, 5, 1, 0] rfl) hF
  · rw [if_pos c6] at hF
    refine lv_bipush (v := (-102)) hx hb dX7_unfold_9 (by decide) ?_
    subst hQ
    exact W.iret (v := (-102)) hx hb hr (fun u9 ht hW => ⟨_, rfl, hF, ht⟩) (fun q hq => by cases hq) dX7_unfold_11
def F_X7_unfolded_18 (rn : Nat) (per : Nat → Nat) (rea : Nat → Int32) (er : Int32) (mm : Int32) (j : Int32) : Nat → Nat → Int32 → Int32
  | 0, k18, x5 => (-1)
  | r18 + 1, k18, x5 => (if (fX7_fits rn per rea (nI k18) er mm) = 0 then F_X7_unfolded_18 rn per rea er mm j r18 (k18 + 1) x5 else (if x5 = j then nI k18 else F_X7_unfolded_18 rn per rea er mm j r18 (k18 + 1) (x5 + 1)))
def fX7_unfolded (rn : Nat) (per : Nat → Nat) (rea : Nat → Int32) (er : Int32) (mm : Int32) (xs : Int32) (j : Int32) : Int32 := (if (fX7_isAsked er mm xs) = 0 then (-102) else F_X7_unfolded_18 rn per rea er mm j ((xs.toNatClampNeg) - 0) 0 0)
abbrev rmX7_unfolded : Room := { frames := 2, cells := 0, slots := 0, locals := 44 }
set_option maxHeartbeats 4000000 in
set_option maxRecDepth 100000 in
theorem c_X7_unfolded (l : Launch) (D : va_G) (cI : ClassId) (h : Nat) (a0 : Nat) (a1 : Nat) (a3 : Nat) (a5 : Nat) (a6 : Nat) (a8 : Nat) (a12 : Nat) (sn : Nat → Nat) (tu : Nat → Int32) (fn : Nat) (we : Nat → Int32) (rn : Nat) (per : Nat → Nat) (rea : Nat → Int32) (wn : Nat) (rw : Nat → Int32) (bs : Nat) (re : Int32) (ot : Int32) (cp : Nat → Int32) (ab : Int64) (be : Int64) (hh : Int64) (er : Int32) (mm : Int32) (xs : Int32) (j : Int32) (hrn : 1 ≤ rn ∧ rn ≤ 4) (hper : ∀ i, i < rn → 2 ≤ per i ∧ per i ≤ 60) : Met l yX7_unfolded wsX7_unfolded rmX7_unfolded (va_Pc [.ref h, .int er, .int mm, .int xs, .int j] (roP D [(cI, .int)] [(h, .inr (5, [.ref a0, .ref a1, .int (nI fn), .ref a3, .int (nI rn), .ref a5, .ref a6, .int (nI wn), .ref a8, .int (nI bs), .int re, .int ot, .ref a12, .long ab, .long be, .long hh])), (a0, .inl (cI, 6, .inl (fun i => nI (sn i)))), (a1, .inl (cI, 96, .inl tu)), (a3, .inl (cI, 24, .inl we)), (a5, .inl (cI, 4, .inl (fun i => nI (per i)))), (a6, .inl (cI, 4, .inl rea)), (a8, .inl (cI, 64, .inl rw)), (a12, .inl (cI, 16, .inl cp))])) (vp_Si (fun r9 => r9 = fX7_unfolded rn per rea er mm xs j)) 0 0 (fun _ => False) := by
  generalize hF : fX7_unfolded rn per rea er mm xs j = T
  refine Met.ofW (cc := cX7_unfolded) (maxL := 7) (ret := (some .int)) (by decide) rfl ?_
  intro p e s m args below meth c s₁ B hml hv
  obtain ⟨rfl, hP, hK⟩ := hv
  have hx := B.exec
  have hb := B.bytes
  have hr := B.returns
  have hts := atoms_spec (ws := wsX7_unfolded) B.pre
  have hown : s.vm.findClass RX7 = some m.cls := findClass_of_methodNamed B.named
  have hlocks := B.notSynchronized
  have hl := lv_entry ([.ref h, .int er, .int mm, .int xs, .int j]) (n := 7) (Nat.le_of_ble_eq_true rfl)
  rw [lg_entry_eq]
  generalize (lg_sl ([.ref h, .int er, .int mm, .int xs, .int j]) ++ List.replicate (7 - (lg_sl ([.ref h, .int er, .int mm, .int xs, .int j])).length) Slot.unset).toArray = ls at hl ⊢
  refine w_Q (fun Q hQ => ?_)
  have hl : lv_has ls 7 [(0, .ref h), (1, .int er), (2, .int mm), (3, .int xs), (4, .int j)] := hl
  rw [fX7_unfolded] at hF
  refine lv_iload_n hx hb dX7_unfolded_0 rfl (lv_at hl 1 rfl) ?_
  refine lv_iload_n hx hb dX7_unfolded_1 rfl (lv_at hl 2 rfl) ?_
  refine lv_iload_n hx hb dX7_unfolded_2 rfl (lv_at hl 3 rfl) ?_
  have hPc := hP.sub (ws' := []) [] rfl
  refine cs_i (va_runS (As := [.int er, .int mm, .int xs]) (rest := []) ⟨hx, hb, hml, hown, hts⟩ (c_X7_isAsked l D cI er mm xs ) (va_cwS 3 hts gX7_unfolded_X7_isAsked rfl rfl rfl (by decide +kernel) ⟨(Nat.le_of_ble_eq_true rfl), (Nat.le_of_ble_eq_true rfl)⟩) (ro_pre hPc hK) rfl rfl hl.1 rfl (lv_room (Nat.le_of_ble_eq_true rfl)) dX7_unfolded_3 ⟨Nat.zero_le _, Nat.zero_le _⟩) ?_
  refine lv_if_ne (tgt := 12) hx hb dX7_unfolded_6 (by decide) (fun c6 => ?_) (fun c6 => ?_)
  · rw [if_neg c6] at hF
    obtain ⟨sp, hsp1, hsp, rfl⟩ := asked_nat c6
    have e_sp : (nI sp).toNatClampNeg = sp := nI_clamp (by omega)
    try simp only [e_sp] at hF
    refine lv_iconst (v := 0) hx hb dX7_unfolded_12 (by decide) ?_
    refine lv_istore (lv' := [(5, .int 0), (0, .ref h), (1, .int er), (2, .int mm), (3, .int (nI sp)), (4, .int j)]) hx hb dX7_unfolded_13 hl (by decide) rfl (fun ls hl => ?_)
    refine lv_iconst (v := 0) hx hb dX7_unfolded_15 (by decide) ?_
    refine lv_istore (lv' := [(6, .int 0), (5, .int 0), (0, .ref h), (1, .int er), (2, .int mm), (3, .int (nI sp)), (4, .int j)]) hx hb dX7_unfolded_16 hl (by decide) rfl (fun ls hl => ?_)
    have lp18 : ∀ (r18 k18 : Nat) (x5 : Int32) (ls : Array Slot), r18 = sp - k18 → k18 ≤ sp + 1 → lv_has ls 7 [(0, .ref h), (1, .int er), (2, .int mm), (3, .int (nI sp)), (4, .int j), (5, .int x5), (6, .int (nI k18))] → F_X7_unfolded_18 rn per rea er mm j r18 k18 x5 = T → W p l e (headSpec wsX7_unfolded rmX7_unfolded).room s m ([.ref h, .int er, .int mm, .int (nI sp), .int j] : List Value).toArray below meth c s.heap [] 0 0 Q (F0 m 18 ls []) := by
      intro r18
      induction r18 with
      | zero =>
        intro k18 x5 ls hi18_0 hi18_1 hl hF
        rw [F_X7_unfolded_18] at hF
        refine lv_iload hx hb dX7_unfolded_18 (lv_at hl 6 rfl) ?_
        refine lv_iload_n hx hb dX7_unfolded_20 rfl (lv_at hl 3 rfl) ?_
        refine lv_icmp_ge (tgt := 54) hx hb dX7_unfolded_21 (by decide) (fun c21 => ?_) (fun c21 => ?_)
        · skip
          refine lv_iconst (v := (-1)) hx hb dX7_unfolded_54 (by decide) ?_
          subst hQ
          exact W.iret (v := (-1)) hx hb hr (fun u9 ht hW => ⟨_, rfl, hF, ht⟩) (fun q hq => by cases hq) dX7_unfolded_55
        · exact False.elim (c21 (nI_le (a := sp) (b := k18) (by omega) (by omega)))
      | succ r18 ih18 =>
        intro k18 x5 ls hi18_0 hi18_1 hl hF
        rw [F_X7_unfolded_18] at hF
        refine lv_iload hx hb dX7_unfolded_18 (lv_at hl 6 rfl) ?_
        refine lv_iload_n hx hb dX7_unfolded_20 rfl (lv_at hl 3 rfl) ?_
        refine lv_icmp_ge (tgt := 54) hx hb dX7_unfolded_21 (by decide) (fun c21 => ?_) (fun c21 => ?_)
        · exact False.elim (nI_ge (a := k18) (b := sp) (by omega) (by omega) c21)
        · skip
          refine lv_aload_n hx hb dX7_unfolded_24 rfl (lv_at hl 0 rfl) ?_
          refine lv_iload hx hb dX7_unfolded_25 (lv_at hl 6 rfl) ?_
          refine lv_iload_n hx hb dX7_unfolded_27 rfl (lv_at hl 1 rfl) ?_
          refine lv_iload_n hx hb dX7_unfolded_28 rfl (lv_at hl 2 rfl) ?_
          refine cs_i (va_runV (As := [.int (nI k18), .int er, .int mm]) (rest := []) ⟨hx, hb, hml, hown, hts⟩ (c_X7_fits l D cI h a0 a1 a3 a5 a6 a8 a12 sn tu fn we rn per rea wn rw bs re ot cp ab be hh (nI k18) er mm (by first | assumption | omega) (by first | assumption | omega)) (cwV 3 hts gX7_unfolded_X7_fits rfl rfl rfl (by decide +kernel) ⟨(Nat.le_of_ble_eq_true rfl), (Nat.le_of_ble_eq_true rfl)⟩) (ro_preV hP hK rfl (q0 := 0) rfl) rfl rfl hl.1 rfl (lv_room (Nat.le_of_ble_eq_true rfl)) dX7_unfolded_29 ⟨Nat.zero_le _, Nat.zero_le _⟩) ?_
          refine lv_if_eq (tgt := 48) hx hb dX7_unfolded_32 (by decide) (fun c32 => ?_) (fun c32 => ?_)
          · rw [if_pos c32] at hF
            refine lv_iinc (v := nI (k18 + 1)) (lv' := [(6, .int (nI (k18 + 1))), (0, .ref h), (1, .int er), (2, .int mm), (3, .int (nI sp)), (4, .int j), (5, .int x5)]) hx hb dX7_unfolded_48 hl (k := 6) rfl (nI_1 _) (by decide) rfl (fun ls hl => ?_)
            refine lv_goto (tgt := 18) hx hb dX7_unfolded_51 (by decide) ?_
            exact ih18 (k18 + 1) x5 ls (by omega) (by omega)  (lv_sub hl [1, 2, 3, 4, 5, 6, 0] rfl) hF
          · rw [if_neg c32] at hF
            refine lv_iload hx hb dX7_unfolded_35 (lv_at hl 5 rfl) ?_
            refine lv_iload hx hb dX7_unfolded_37 (lv_at hl 4 rfl) ?_
            refine lv_icmp_ne (tgt := 45) hx hb dX7_unfolded_39 (by decide) (fun c39 => ?_) (fun c39 => ?_)
            · rw [if_neg c39] at hF
              refine lv_iinc (v := x5 + 1) (lv' := [(5, .int (x5 + 1)), (0, .ref h), (1, .int er), (2, .int mm), (3, .int (nI sp)), (4, .int j), (6, .int (nI k18))]) hx hb dX7_unfolded_45 hl (k := 5) rfl rfl (by decide) rfl (fun ls hl => ?_)
              refine lv_iinc (v := nI (k18 + 1)) (lv' := [(6, .int (nI (k18 + 1))), (5, .int (x5 + 1)), (0, .ref h), (1, .int er), (2, .int mm), (3, .int (nI sp)), (4, .int j)]) hx hb dX7_unfolded_48 hl (k := 6) rfl (nI_1 _) (by decide) rfl (fun ls hl => ?_)
              refine lv_goto (tgt := 18) hx hb dX7_unfolded_51 (by decide) ?_
              exact ih18 (k18 + 1) (x5 + 1) ls (by omega) (by omega)  (lv_sub hl [2, 3, 4, 5, 6, 1, 0] rfl) hF
            · rw [if_pos c39] at hF
              refine lv_iload hx hb dX7_unfolded_42 (lv_at hl 6 rfl) ?_
              subst hQ
              exact W.iret (v := nI k18) hx hb hr (fun u9 ht hW => ⟨_, rfl, hF, ht⟩) (fun q hq => by cases hq) dX7_unfolded_44
    exact lp18 (sp - 0) 0 0 ls rfl (by omega)  (lv_sub hl [2, 3, 4, 5, 6, 1, 0] rfl) hF
  · rw [if_pos c6] at hF
    refine lv_bipush (v := (-102)) hx hb dX7_unfolded_9 (by decide) ?_
    subst hQ
    exact W.iret (v := (-102)) hx hb hr (fun u9 ht hW => ⟨_, rfl, hF, ht⟩) (fun q hq => by cases hq) dX7_unfolded_11
def F_X7_shared_6  : Nat → Nat → Nat → Nat → Int64
  | 0, k6, x4, x6 => lN x4
  | r6 + 1, k6, x4, x6 => (if (lg_cmp (lN x6) 0) = 0 then lN x4 else F_X7_shared_6  r6 k6 x6 (x4 % x6))
def fX7_shared (a : Nat) (b : Nat) : Int64 := F_X7_shared_6  b 0 a b
abbrev rmX7_shared : Room := { frames := 0, cells := 0, slots := 0, locals := 0 }
set_option maxHeartbeats 4000000 in
set_option maxRecDepth 100000 in
theorem c_X7_shared (l : Launch) (D : va_G) (cI : ClassId) (a : Nat) (b : Nat) (ha : a < 2 ^ 62) (hb62 : b < 2 ^ 62) : Met l yX7_shared wsX7_shared rmX7_shared (va_Pc [.long (lN a), .long (lN b)] (roP D [(cI, .int)] [])) (vp_Sl (fun r9 => r9 = fX7_shared a b)) 0 0 (fun _ => False) := by
  generalize hF : fX7_shared a b = T
  refine Met.ofW (cc := cX7_shared) (maxL := 10) (ret := (some .long)) (by decide) rfl ?_
  intro p e s m args below meth c s₁ B hml hv
  obtain ⟨rfl, hP, hK⟩ := hv
  have hx := B.exec
  have hb := B.bytes
  have hr := B.returns
  have hts := atoms_spec (ws := wsX7_shared) B.pre
  have hown : s.vm.findClass RX7 = some m.cls := findClass_of_methodNamed B.named
  have hlocks := B.notSynchronized
  have hl := lv_entry ([.long (lN a), .long (lN b)]) (n := 10) (Nat.le_of_ble_eq_true rfl)
  rw [lg_entry_eq]
  generalize (lg_sl ([.long (lN a), .long (lN b)]) ++ List.replicate (10 - (lg_sl ([.long (lN a), .long (lN b)])).length) Slot.unset).toArray = ls at hl ⊢
  refine w_Q (fun Q hQ => ?_)
  have hl : lv_has ls 10 [(0, .long (lN a)), (2, .long (lN b))] := hl
  rw [fX7_shared] at hF
  refine lv_lload_n hx hb dX7_shared_0 rfl (lv_at hl 0 rfl) ?_
  refine lv_lstore (lv' := [(4, .long (lN a)), (0, .long (lN a)), (2, .long (lN b))]) hx hb dX7_shared_1 hl (by decide) rfl (fun ls hl => ?_)
  refine lv_lload_n hx hb dX7_shared_3 rfl (lv_at hl 2 rfl) ?_
  refine lv_lstore (lv' := [(6, .long (lN b)), (4, .long (lN a)), (0, .long (lN a)), (2, .long (lN b))]) hx hb dX7_shared_4 hl (by decide) rfl (fun ls hl => ?_)
  have lp6 : ∀ (r6 k6 : Nat) (x4 : Nat) (x6 : Nat) (ls : Array Slot), x6 ≤ r6 → x4 < 2 ^ 62 → x6 < 2 ^ 62 → lv_has ls 10 [(0, .long (lN a)), (2, .long (lN b)), (4, .long (lN x4)), (6, .long (lN x6))] → F_X7_shared_6  r6 k6 x4 x6 = T → W p l e (headSpec wsX7_shared rmX7_shared).room s m ([.long (lN a), .long (lN b)] : List Value).toArray below meth c s.heap [] 0 0 Q (F0 m 6 ls []) := by
    intro r6
    induction r6 with
    | zero =>
      intro k6 x4 x6 ls hi6_0 hi6_1 hi6_2 hl hF
      rw [F_X7_shared_6] at hF
      refine lv_lload hx hb dX7_shared_6 (lv_at hl 3 rfl) ?_
      refine lv_lconst (v := 0) hx hb dX7_shared_8 (by decide) ?_
      refine W.lcmp hx hb dX7_shared_9 ?_
      refine lv_if_eq (tgt := 31) hx hb dX7_shared_10 (by decide) (fun c10 => ?_) (fun c10 => ?_)
      · skip
        refine lv_lload hx hb dX7_shared_31 (lv_at hl 2 rfl) ?_
        subst hQ
        exact W.lret (v := lN x4) hx hb hr (fun u9 ht hW => ⟨_, rfl, hF, ht⟩) (fun q hq => by cases hq) dX7_shared_33
      · exact False.elim (absurd (sh_pos c10) (by omega))
    | succ r6 ih6 =>
      intro k6 x4 x6 ls hi6_0 hi6_1 hi6_2 hl hF
      rw [F_X7_shared_6] at hF
      refine lv_lload hx hb dX7_shared_6 (lv_at hl 3 rfl) ?_
      refine lv_lconst (v := 0) hx hb dX7_shared_8 (by decide) ?_
      refine W.lcmp hx hb dX7_shared_9 ?_
      refine lv_if_eq (tgt := 31) hx hb dX7_shared_10 (by decide) (fun c10 => ?_) (fun c10 => ?_)
      · rw [if_pos c10] at hF
        refine lv_lload hx hb dX7_shared_31 (lv_at hl 2 rfl) ?_
        subst hQ
        exact W.lret (v := lN x4) hx hb hr (fun u9 ht hW => ⟨_, rfl, hF, ht⟩) (fun q hq => by cases hq) dX7_shared_33
      · rw [if_neg c10] at hF
        refine lv_lload hx hb dX7_shared_13 (lv_at hl 2 rfl) ?_
        refine lv_lload hx hb dX7_shared_15 (lv_at hl 3 rfl) ?_
        refine lv_lrem hx hb dX7_shared_17 (lg_ne c10) ?_
        rw [pk_lRem (by omega) (sh_pos c10) (by omega)]
        refine lv_lstore (lv' := [(8, .long (lN (x4 % x6))), (0, .long (lN a)), (2, .long (lN b)), (4, .long (lN x4)), (6, .long (lN x6))]) hx hb dX7_shared_18 hl (by decide) rfl (fun ls hl => ?_)
        refine lv_lload hx hb dX7_shared_20 (lv_at hl 4 rfl) ?_
        refine lv_lstore (lv' := [(4, .long (lN x6)), (8, .long (lN (x4 % x6))), (0, .long (lN a)), (2, .long (lN b)), (6, .long (lN x6))]) hx hb dX7_shared_22 hl (by decide) rfl (fun ls hl => ?_)
        refine lv_lload hx hb dX7_shared_24 (lv_at hl 1 rfl) ?_
        refine lv_lstore (lv' := [(6, .long (lN (x4 % x6))), (4, .long (lN x6)), (8, .long (lN (x4 % x6))), (0, .long (lN a)), (2, .long (lN b))]) hx hb dX7_shared_26 hl (by decide) rfl (fun ls hl => ?_)
        refine lv_goto (tgt := 6) hx hb dX7_shared_28 (by decide) ?_
        exact ih6 k6 x6 (x4 % x6) ls (Nat.lt_succ_iff.mp (Nat.lt_of_lt_of_le (Nat.mod_lt _ (sh_pos c10)) hi6_0)) hi6_2 (Nat.lt_trans (Nat.mod_lt _ (sh_pos c10)) hi6_2)  (lv_sub hl [3, 4, 1, 0] rfl) hF
  exact lp6 b 0 a b ls (Nat.le_refl _) ha hb62  (lv_sub hl [2, 3, 1, 0] rfl) hF
