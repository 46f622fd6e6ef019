theorem share_k {n k : Int32} (h1 : ¬ fX7_in n 1 8 = 0) (h2 : ¬ fX7_in k 1 n = 0) : ∃ j, 1 ≤ j ∧ j ≤ 8 ∧ k = nI j := by
  obtain ⟨a, -, ha, rfl⟩ := in_nat (a := 1) (b := 8) h1 (by omega)
  obtain ⟨j, h3, h4, e⟩ := in_nat (a := 1) (b := a) h2 (by omega)
  exact ⟨j, h3, by omega, e⟩
def F_X7_falses_13 (n : Int32) (sc : Int32) : Nat → Nat → Int64 → Int64 → (Int64 × Int64)
  | 0, k13, ab, be => (ab, be)
  | r13 + 1, k13, ab, be => F_X7_falses_13 n sc r13 (k13 + 1) (ab * ((n - (nI k13)).toInt64)) (be * (((n - (nI k13)) + sc).toInt64))
def fX7_falses (n : Int32) (k : Nat) (sc : Int32) : Int64 × Int64 := F_X7_falses_13 n sc (k - 0) 0 1 1
abbrev rmX7_falses : Room := { frames := 0, cells := 0, slots := 0, locals := 0 }
set_option maxHeartbeats 4000000 in
set_option maxRecDepth 100000 in
theorem c_X7_falses (l : Launch) (D : va_G) (cI : ClassId) (sz : Nat) (h : Nat) (a0 : Nat) (a1 : Nat) (a3 : Nat) (a5 : Nat) (a6 : Nat) (a8 : Nat) (a12 : Nat) (sn : Nat → Nat) (tu : Nat → Int32) (fn : Nat) (we : Nat → Int32) (rn : Nat) (per : Nat → Nat) (rea : Nat → Int32) (wn : Nat) (rw : Nat → Int32) (bs : Nat) (re : Int32) (ot : Int32) (cp : Nat → Int32) (ab : Int64) (be : Int64) (hh : Int64) (n : Int32) (k : Nat) (sc : Int32) (hk : k ≤ 8) : Met l yX7_falses wsX7_falses rmX7_falses (va_Pc [.ref h, .int n, .int (nI k), .int sc] (wrP D [(cI, .int)] [(h, .inr (5, [.ref a0, .ref a1, .int (nI fn), .ref a3, .int (nI rn), .ref a5, .ref a6, .int (nI wn), .ref a8, .int (nI bs), .int re, .int ot, .ref a12, .long ab, .long be, .long hh])), (a0, .inl (cI, 6, .inl (fun i => nI (sn i)))), (a1, .inl (cI, 96, .inl tu)), (a3, .inl (cI, 24, .inl we)), (a5, .inl (cI, 4, .inl (fun i => nI (per i)))), (a6, .inl (cI, 4, .inl rea)), (a8, .inl (cI, 64, .inl rw)), (a12, .inl (cI, 16, .inl cp))] sz)) (va_Qv (fun (_ : Unit) => True) (fun _ u9 => va_P D vwCl [(h, .inr (5, [.ref a0, .ref a1, .int (nI fn), .ref a3, .int (nI rn), .ref a5, .ref a6, .int (nI wn), .ref a8, .int (nI bs), .int re, .int ot, .ref a12, .long ((fX7_falses n k sc).1), .long ((fX7_falses n k sc).2), .long hh])), (a0, .inl (cI, 6, .inl (fun i => nI (sn i)))), (a1, .inl (cI, 96, .inl tu)), (a3, .inl (cI, 24, .inl we)), (a5, .inl (cI, 4, .inl (fun i => nI (per i)))), (a6, .inl (cI, 4, .inl rea)), (a8, .inl (cI, 64, .inl rw)), (a12, .inl (cI, 16, .inl cp))] u9.heap) (va_A [(h, .inr (5, [.ref a0, .ref a1, .int (nI fn), .ref a3, .int (nI rn), .ref a5, .ref a6, .int (nI wn), .ref a8, .int (nI bs), .int re, .int ot, .ref a12, .long ab, .long be, .long hh])), (a0, .inl (cI, 6, .inl (fun i => nI (sn i)))), (a1, .inl (cI, 96, .inl tu)), (a3, .inl (cI, 24, .inl we)), (a5, .inl (cI, 4, .inl (fun i => nI (per i)))), (a6, .inl (cI, 4, .inl rea)), (a8, .inl (cI, 64, .inl rw)), (a12, .inl (cI, 16, .inl cp))] sz)) 0 0 (va_A [(h, .inr (5, [.ref a0, .ref a1, .int (nI fn), .ref a3, .int (nI rn), .ref a5, .ref a6, .int (nI wn), .ref a8, .int (nI bs), .int re, .int ot, .ref a12, .long ab, .long be, .long hh])), (a0, .inl (cI, 6, .inl (fun i => nI (sn i)))), (a1, .inl (cI, 96, .inl tu)), (a3, .inl (cI, 24, .inl we)), (a5, .inl (cI, 4, .inl (fun i => nI (per i)))), (a6, .inl (cI, 4, .inl rea)), (a8, .inl (cI, 64, .inl rw)), (a12, .inl (cI, 16, .inl cp))] sz) := by
  generalize hF : fX7_falses n k sc = T
  refine Met.ofW (cc := cX7_falses) (maxL := 5) (ret := none) (by decide) rfl ?_
  intro p e s m args below meth c s₁ B hml hv
  obtain ⟨rfl, hsz, hP, hK, hD0⟩ := hv
  have hx := B.exec
  have hb := B.bytes
  have hr := B.returns
  have hts := atoms_spec (ws := wsX7_falses) B.pre
  have hown : s.vm.findClass RX7 = some m.cls := findClass_of_methodNamed B.named
  have hlocks := B.notSynchronized
  have hinX7 : ∀ w ∈ u_ws RX7 TX7 16, w ∈ wsX7_falses := by decide +kernel
  have hf114 := hts (.fieldLink RX7 114 "PulseSignsModel" "above" "J") (by decide +kernel)
  have hf118 := hts (.fieldLink RX7 118 "PulseSignsModel" "below" "J") (by decide +kernel)
  subst hsz
  have hD := hD0.self (sz := s.heap.size)
  generalize hAe : va_A [(h, .inr (5, [.ref a0, .ref a1, .int (nI fn), .ref a3, .int (nI rn), .ref a5, .ref a6, .int (nI wn), .ref a8, .int (nI bs), .int re, .int ot, .ref a12, .long ab, .long be, .long hh])), (a0, .inl (cI, 6, .inl (fun i => nI (sn i)))), (a1, .inl (cI, 96, .inl tu)), (a3, .inl (cI, 24, .inl we)), (a5, .inl (cI, 4, .inl (fun i => nI (per i)))), (a6, .inl (cI, 4, .inl rea)), (a8, .inl (cI, 64, .inl rw)), (a12, .inl (cI, 16, .inl cp))] s.heap.size = A at hD ⊢
  have hA : ∀ q : Nat, s.heap.size ≤ q → A q := fun q h => by rw [← hAe]; exact Or.inr h
  have hS : va_S A s.heap s.heap [] := va_S.rf
  have hP : va_P D vwCl [(h, .inr (5, [.ref a0, .ref a1, .int (nI fn), .ref a3, .int (nI rn), .ref a5, .ref a6, .int (nI wn), .ref a8, .int (nI bs), .int re, .int ot, .ref a12, .long ab, .long be, .long hh])), (a0, .inl (cI, 6, .inl (fun i => nI (sn i)))), (a1, .inl (cI, 96, .inl tu)), (a3, .inl (cI, 24, .inl we)), (a5, .inl (cI, 4, .inl (fun i => nI (per i)))), (a6, .inl (cI, 4, .inl rea)), (a8, .inl (cI, 64, .inl rw)), (a12, .inl (cI, 16, .inl cp))] s.heap := hP
  have hl := lv_entry ([.ref h, .int n, .int (nI k), .int sc]) (n := 5) (Nat.le_of_ble_eq_true rfl)
  rw [lg_entry_eq]
  generalize (lg_sl ([.ref h, .int n, .int (nI k), .int sc]) ++ List.replicate (5 - (lg_sl ([.ref h, .int n, .int (nI k), .int sc])).length) Slot.unset).toArray = ls at hl ⊢
  refine w_Q (fun Q hQ => ?_)
  have hl : lv_has ls 5 [(0, .ref h), (1, .int n), (2, .int (nI k)), (3, .int sc)] := hl
  rw [fX7_falses] at hF
  refine lv_aload_n hx hb dX7_falses_0 rfl (lv_at hl 0 rfl) ?_
  refine lv_lconst (v := 1) hx hb dX7_falses_1 (by decide) ?_
  refine va_put (D := D) (ci := 5) (v := .long 1) (ty := .long) (C := RX7) (T := TX7) (N := 16) hx hb hts hinX7 tyX7 tyX7_ok nmX7 hown hK.1 hP hD hS 0 rfl rfl 13 (by decide) hf114 (fun _ h9 => h9) rfl (by decide +kernel) rfl rfl (Nat.le_of_ble_eq_true rfl) dX7_falses_2 (fun H locs hP hD hS => ?_)
  have hP : va_P D vwCl [(h, .inr (5, [.ref a0, .ref a1, .int (nI fn), .ref a3, .int (nI rn), .ref a5, .ref a6, .int (nI wn), .ref a8, .int (nI bs), .int re, .int ot, .ref a12, .long 1, .long be, .long hh])), (a0, .inl (cI, 6, .inl (fun i => nI (sn i)))), (a1, .inl (cI, 96, .inl tu)), (a3, .inl (cI, 24, .inl we)), (a5, .inl (cI, 4, .inl (fun i => nI (per i)))), (a6, .inl (cI, 4, .inl rea)), (a8, .inl (cI, 64, .inl rw)), (a12, .inl (cI, 16, .inl cp))] H := hP
  have hD : va_D A [(h, .inr (5, [.ref a0, .ref a1, .int (nI fn), .ref a3, .int (nI rn), .ref a5, .ref a6, .int (nI wn), .ref a8, .int (nI bs), .int re, .int ot, .ref a12, .long 1, .long be, .long hh])), (a0, .inl (cI, 6, .inl (fun i => nI (sn i)))), (a1, .inl (cI, 96, .inl tu)), (a3, .inl (cI, 24, .inl we)), (a5, .inl (cI, 4, .inl (fun i => nI (per i)))), (a6, .inl (cI, 4, .inl rea)), (a8, .inl (cI, 64, .inl rw)), (a12, .inl (cI, 16, .inl cp))] := hD
  refine lv_aload_n hx hb dX7_falses_5 rfl (lv_at hl 0 rfl) ?_
  refine lv_lconst (v := 1) hx hb dX7_falses_6 (by decide) ?_
  refine va_put (D := D) (ci := 5) (v := .long 1) (ty := .long) (C := RX7) (T := TX7) (N := 16) hx hb hts hinX7 tyX7 tyX7_ok nmX7 hown hK.1 hP hD hS 0 rfl rfl 14 (by decide) hf118 (fun _ h9 => h9) rfl (by decide +kernel) rfl rfl (Nat.le_of_ble_eq_true rfl) dX7_falses_7 (fun H locs hP hD hS => ?_)
  have hP : va_P D vwCl [(h, .inr (5, [.ref a0, .ref a1, .int (nI fn), .ref a3, .int (nI rn), .ref a5, .ref a6, .int (nI wn), .ref a8, .int (nI bs), .int re, .int ot, .ref a12, .long 1, .long 1, .long hh])), (a0, .inl (cI, 6, .inl (fun i => nI (sn i)))), (a1, .inl (cI, 96, .inl tu)), (a3, .inl (cI, 24, .inl we)), (a5, .inl (cI, 4, .inl (fun i => nI (per i)))), (a6, .inl (cI, 4, .inl rea)), (a8, .inl (cI, 64, .inl rw)), (a12, .inl (cI, 16, .inl cp))] H := hP
  have hD : va_D A [(h, .inr (5, [.ref a0, .ref a1, .int (nI fn), .ref a3, .int (nI rn), .ref a5, .ref a6, .int (nI wn), .ref a8, .int (nI bs), .int re, .int ot, .ref a12, .long 1, .long 1, .long hh])), (a0, .inl (cI, 6, .inl (fun i => nI (sn i)))), (a1, .inl (cI, 96, .inl tu)), (a3, .inl (cI, 24, .inl we)), (a5, .inl (cI, 4, .inl (fun i => nI (per i)))), (a6, .inl (cI, 4, .inl rea)), (a8, .inl (cI, 64, .inl rw)), (a12, .inl (cI, 16, .inl cp))] := hD
  refine lv_iconst (v := 0) hx hb dX7_falses_10 (by decide) ?_
  refine lv_istore (lv' := [(4, .int 0), (0, .ref h), (1, .int n), (2, .int (nI k)), (3, .int sc)]) hx hb dX7_falses_11 hl (by decide) rfl (fun ls hl => ?_)
  have lp13 : ∀ (r13 k13 : Nat) (ab : Int64) (be : Int64) (H : Heap) (locs : List Loc) (ls : Array Slot), r13 = k - k13 → k13 ≤ k + 1 → va_P D vwCl [(h, .inr (5, [.ref a0, .ref a1, .int (nI fn), .ref a3, .int (nI rn), .ref a5, .ref a6, .int (nI wn), .ref a8, .int (nI bs), .int re, .int ot, .ref a12, .long ab, .long be, .long hh])), (a0, .inl (cI, 6, .inl (fun i => nI (sn i)))), (a1, .inl (cI, 96, .inl tu)), (a3, .inl (cI, 24, .inl we)), (a5, .inl (cI, 4, .inl (fun i => nI (per i)))), (a6, .inl (cI, 4, .inl rea)), (a8, .inl (cI, 64, .inl rw)), (a12, .inl (cI, 16, .inl cp))] H → va_D A [(h, .inr (5, [.ref a0, .ref a1, .int (nI fn), .ref a3, .int (nI rn), .ref a5, .ref a6, .int (nI wn), .ref a8, .int (nI bs), .int re, .int ot, .ref a12, .long ab, .long be, .long hh])), (a0, .inl (cI, 6, .inl (fun i => nI (sn i)))), (a1, .inl (cI, 96, .inl tu)), (a3, .inl (cI, 24, .inl we)), (a5, .inl (cI, 4, .inl (fun i => nI (per i)))), (a6, .inl (cI, 4, .inl rea)), (a8, .inl (cI, 64, .inl rw)), (a12, .inl (cI, 16, .inl cp))] → va_S A s.heap H locs → lv_has ls 5 [(0, .ref h), (1, .int n), (2, .int (nI k)), (3, .int sc), (4, .int (nI k13))] → F_X7_falses_13 n sc r13 k13 ab be = T → W p l e (headSpec wsX7_falses rmX7_falses).room s m ([.ref h, .int n, .int (nI k), .int sc] : List Value).toArray below meth c H locs 0 0 Q (F0 m 13 ls []) := by
    intro r13
    induction r13 with
    | zero =>
      intro k13 ab be H locs ls hi13_0 hi13_1 hP hD hS hl hF
      rw [F_X7_falses_13] at hF
      refine lv_iload hx hb dX7_falses_13 (lv_at hl 4 rfl) ?_
      refine lv_iload_n hx hb dX7_falses_15 rfl (lv_at hl 2 rfl) ?_
      refine lv_icmp_ge (tgt := 55) hx hb dX7_falses_16 (by decide) (fun c16 => ?_) (fun c16 => ?_)
      · skip
        subst hF
        subst hQ
        exact W.vret hx hb hr (fun u9 ht hW => ⟨⟨(), rfl, trivial, by rw [← ht] at hP; exact hP⟩, hS.F ht⟩) hS.2.2 dX7_falses_55
      · exact False.elim (c16 (nI_le (a := k) (b := k13) (by omega) (by omega)))
    | succ r13 ih13 =>
      intro k13 ab be H locs ls hi13_0 hi13_1 hP hD hS hl hF
      rw [F_X7_falses_13] at hF
      refine lv_iload hx hb dX7_falses_13 (lv_at hl 4 rfl) ?_
      refine lv_iload_n hx hb dX7_falses_15 rfl (lv_at hl 2 rfl) ?_
      refine lv_icmp_ge (tgt := 55) hx hb dX7_falses_16 (by decide) (fun c16 => ?_) (fun c16 => ?_)
      · exact False.elim (nI_ge (a := k13) (b := k) (by omega) (by omega) c16)
      · skip
        refine lv_aload_n hx hb dX7_falses_19 rfl (lv_at hl 0 rfl) ?_
        refine lv_dup hx hb dX7_falses_20 rfl ?_
        refine va_get (D := D) (ci := 5) (v := .long ab) (C := RX7) (T := TX7) (N := 16) hx hb hts hinX7 hown hK.1 hP 0 rfl rfl 13 (by decide) hf114 (fun _ h9 => h9) rfl dX7_falses_21 ?_
        refine lv_iload_n hx hb dX7_falses_24 rfl (lv_at hl 1 rfl) ?_
        refine lv_iload hx hb dX7_falses_25 (lv_at hl 4 rfl) ?_
        refine lv_isub hx hb dX7_falses_27 ?_
        refine lv_i2l hx hb dX7_falses_28 rfl ?_
        refine lv_lmul hx hb dX7_falses_29 ?_
        refine va_put (D := D) (ci := 5) (v := .long (ab * ((n - (nI k13)).toInt64))) (ty := .long) (C := RX7) (T := TX7) (N := 16) hx hb hts hinX7 tyX7 tyX7_ok nmX7 hown hK.1 hP hD hS 0 rfl rfl 13 (by decide) hf114 (fun _ h9 => h9) rfl (by decide +kernel) rfl rfl (Nat.le_of_ble_eq_true rfl) dX7_falses_30 (fun H locs hP hD hS => ?_)
        have hP : va_P D vwCl [(h, .inr (5, [.ref a0, .ref a1, .int (nI fn), .ref a3, .int (nI rn), .ref a5, .ref a6, .int (nI wn), .ref a8, .int (nI bs), .int re, .int ot, .ref a12, .long (ab * ((n - (nI k13)).toInt64)), .long be, .long hh])), (a0, .inl (cI, 6, .inl (fun i => nI (sn i)))), (a1, .inl (cI, 96, .inl tu)), (a3, .inl (cI, 24, .inl we)), (a5, .inl (cI, 4, .inl (fun i => nI (per i)))), (a6, .inl (cI, 4, .inl rea)), (a8, .inl (cI, 64, .inl rw)), (a12, .inl (cI, 16, .inl cp))] H := hP
        have hD : va_D A [(h, .inr (5, [.ref a0, .ref a1, .int (nI fn), .ref a3, .int (nI rn), .ref a5, .ref a6, .int (nI wn), .ref a8, .int (nI bs), .int re, .int ot, .ref a12, .long (ab * ((n - (nI k13)).toInt64)), .long be, .long hh])), (a0, .inl (cI, 6, .inl (fun i => nI (sn i)))), (a1, .inl (cI, 96, .inl tu)), (a3, .inl (cI, 24, .inl we)), (a5, .inl (cI, 4, .inl (fun i => nI (per i)))), (a6, .inl (cI, 4, .inl rea)), (a8, .inl (cI, 64, .inl rw)), (a12, .inl (cI, 16, .inl cp))] := hD
        refine lv_aload_n hx hb dX7_falses_33 rfl (lv_at hl 0 rfl) ?_
        refine lv_dup hx hb dX7_falses_34 rfl ?_
        refine va_get (D := D) (ci := 5) (v := .long be) (C := RX7) (T := TX7) (N := 16) hx hb hts hinX7 hown hK.1 hP 0 rfl rfl 14 (by decide) hf118 (fun _ h9 => h9) rfl dX7_falses_35 ?_
        refine lv_iload_n hx hb dX7_falses_38 rfl (lv_at hl 1 rfl) ?_
        refine lv_iload hx hb dX7_falses_39 (lv_at hl 4 rfl) ?_
        refine lv_isub hx hb dX7_falses_41 ?_
        refine lv_iload_n hx hb dX7_falses_42 rfl (lv_at hl 3 rfl) ?_
        refine lv_iadd hx hb dX7_falses_43 ?_
        refine lv_i2l hx hb dX7_falses_44 rfl ?_
        refine lv_lmul hx hb dX7_falses_45 ?_
        refine va_put (D := D) (ci := 5) (v := .long (be * (((n - (nI k13)) + sc).toInt64))) (ty := .long) (C := RX7) (T := TX7) (N := 16) hx hb hts hinX7 tyX7 tyX7_ok nmX7 hown hK.1 hP hD hS 0 rfl rfl 14 (by decide) hf118 (fun _ h9 => h9) rfl (by decide +kernel) rfl rfl (Nat.le_of_ble_eq_true rfl) dX7_falses_46 (fun H locs hP hD hS => ?_)
        have hP : va_P D vwCl [(h, .inr (5, [.ref a0, .ref a1, .int (nI fn), .ref a3, .int (nI rn), .ref a5, .ref a6, .int (nI wn), .ref a8, .int (nI bs), .int re, .int ot, .ref a12, .long (ab * ((n - (nI k13)).toInt64)), .long (be * (((n - (nI k13)) + sc).toInt64)), .long hh])), (a0, .inl (cI, 6, .inl (fun i => nI (sn i)))), (a1, .inl (cI, 96, .inl tu)), (a3, .inl (cI, 24, .inl we)), (a5, .inl (cI, 4, .inl (fun i => nI (per i)))), (a6, .inl (cI, 4, .inl rea)), (a8, .inl (cI, 64, .inl rw)), (a12, .inl (cI, 16, .inl cp))] H := hP
        have hD : va_D A [(h, .inr (5, [.ref a0, .ref a1, .int (nI fn), .ref a3, .int (nI rn), .ref a5, .ref a6, .int (nI wn), .ref a8, .int (nI bs), .int re, .int ot, .ref a12, .long (ab * ((n - (nI k13)).toInt64)), .long (be * (((n - (nI k13)) + sc).toInt64)), .long hh])), (a0, .inl (cI, 6, .inl (fun i => nI (sn i)))), (a1, .inl (cI, 96, .inl tu)), (a3, .inl (cI, 24, .inl we)), (a5, .inl (cI, 4, .inl (fun i => nI (per i)))), (a6, .inl (cI, 4, .inl rea)), (a8, .inl (cI, 64, .inl rw)), (a12, .inl (cI, 16, .inl cp))] := hD
        refine lv_iinc (v := nI (k13 + 1)) (lv' := [(4, .int (nI (k13 + 1))), (0, .ref h), (1, .int n), (2, .int (nI k)), (3, .int sc)]) hx hb dX7_falses_49 hl (k := 4) rfl (nI_1 _) (by decide) rfl (fun ls hl => ?_)
        refine lv_goto (tgt := 13) hx hb dX7_falses_52 (by decide) ?_
        exact ih13 (k13 + 1) (ab * ((n - (nI k13)).toInt64)) (be * (((n - (nI k13)) + sc).toInt64)) H locs ls (by omega) (by omega) hP hD hS (lv_sub hl [1, 2, 3, 4, 0] rfl) hF
  exact lp13 (k - 0) 0 1 1 H _ ls rfl (by omega) hP hD hS (lv_sub hl [1, 2, 3, 4, 0] rfl) hF
def F_X7_scale_35 (xn : Int32) (u : Int32) (kn : Nat) : Nat → Nat → Int64 → Int64 → (Int32 × Int64 × Int64)
  | 0, k35, ab, be => ((-1), ab, be)
  | r35 + 1, k35, ab, be => (if 0 < (lg_cmp (((fX7_falses xn kn (nI k35)).1) * u.toInt64) ((fX7_falses xn kn (nI k35)).2)) then F_X7_scale_35 xn u kn r35 (k35 + 1) ((fX7_falses xn kn (nI k35)).1) ((fX7_falses xn kn (nI k35)).2) else (nI k35, (fX7_falses xn kn (nI k35)).1, (fX7_falses xn kn (nI k35)).2))
def fX7_scale (ab : Int64) (be : Int64) (xn : Int32) (xk : Int32) (u : Int32) : Int32 × Int64 × Int64 := (if (fX7_in xn 1 8) = 0 then ((-102), ab, be) else (if (fX7_in xk 1 xn) = 0 then ((-102), ab, be) else (if (fX7_in u 1 1000000000) = 0 then ((-102), ab, be) else F_X7_scale_35 xn u (xk.toNatClampNeg) ((40 + 1) - 1) 1 ab be)))
abbrev rmX7_scale : Room := { frames := 1, cells := 0, slots := 0, locals := 24 }
set_option maxHeartbeats 4000000 in
set_option maxRecDepth 100000 in
theorem c_X7_scale (l : Launch) (D : va_G) (cI : ClassId) (sz : Nat) (h : Nat) (a0 : Nat) (a1 : Nat) (a3 : Nat) (a5 : Nat) (a6 : Nat) (a8 : Nat) (a12 : Nat) (sn : Nat → Nat) (tu : Nat → Int32) (fn : Nat) (we : Nat → Int32) (rn : Nat) (per : Nat → Nat) (rea : Nat → Int32) (wn : Nat) (rw : Nat → Int32) (bs : Nat) (re : Int32) (ot : Int32) (cp : Nat → Int32) (ab : Int64) (be : Int64) (hh : Int64) (xn : Int32) (xk : Int32) (u : Int32)  : Met l yX7_scale wsX7_scale rmX7_scale (va_Pc [.ref h, .int xn, .int xk, .int u] (wrP D [(cI, .int)] [(h, .inr (5, [.ref a0, .ref a1, .int (nI fn), .ref a3, .int (nI rn), .ref a5, .ref a6, .int (nI wn), .ref a8, .int (nI bs), .int re, .int ot, .ref a12, .long ab, .long be, .long hh])), (a0, .inl (cI, 6, .inl (fun i => nI (sn i)))), (a1, .inl (cI, 96, .inl tu)), (a3, .inl (cI, 24, .inl we)), (a5, .inl (cI, 4, .inl (fun i => nI (per i)))), (a6, .inl (cI, 4, .inl rea)), (a8, .inl (cI, 64, .inl rw)), (a12, .inl (cI, 16, .inl cp))] sz)) (va_Qi (fun r9 (_ : Unit) => r9 = (fX7_scale ab be xn xk u).1) (fun _ u9 => va_P D vwCl [(h, .inr (5, [.ref a0, .ref a1, .int (nI fn), .ref a3, .int (nI rn), .ref a5, .ref a6, .int (nI wn), .ref a8, .int (nI bs), .int re, .int ot, .ref a12, .long ((fX7_scale ab be xn xk u).2.1), .long ((fX7_scale ab be xn xk u).2.2), .long hh])), (a0, .inl (cI, 6, .inl (fun i => nI (sn i)))), (a1, .inl (cI, 96, .inl tu)), (a3, .inl (cI, 24, .inl we)), (a5, .inl (cI, 4, .inl (fun i => nI (per i)))), (a6, .inl (cI, 4, .inl rea)), (a8, .inl (cI, 64, .inl rw)), (a12, .inl (cI, 16, .inl cp))] u9.heap) (va_A [(h, .inr (5, [.ref a0, .ref a1, .int (nI fn), .ref a3, .int (nI rn), .ref a5, .ref a6, .int (nI wn), .ref a8, .int (nI bs), .int re, .int ot, .ref a12, .long ab, .long be, .long hh])), (a0, .inl (cI, 6, .inl (fun i => nI (sn i)))), (a1, .inl (cI, 96, .inl tu)), (a3, .inl (cI, 24, .inl we)), (a5, .inl (cI, 4, .inl (fun i => nI (per i)))), (a6, .inl (cI, 4, .inl rea)), (a8, .inl (cI, 64, .inl rw)), (a12, .inl (cI, 16, .inl cp))] sz)) 0 0 (va_A [(h, .inr (5, [.ref a0, .ref a1, .int (nI fn), .ref a3, .int (nI rn), .ref a5, .ref a6, .int (nI wn), .ref a8, .int (nI bs), .int re, .int ot, .ref a12, .long ab, .long be, .long hh])), (a0, .inl (cI, 6, .inl (fun i => nI (sn i)))), (a1, .inl (cI, 96, .inl tu)), (a3, .inl (cI, 24, .inl we)), (a5, .inl (cI, 4, .inl (fun i => nI (per i)))), (a6, .inl (cI, 4, .inl rea)), (a8, .inl (cI, 64, .inl rw)), (a12, .inl (cI, 16, .inl cp))] sz) := by
  generalize hF : fX7_scale ab be xn xk u = T
  refine Met.ofW (cc := cX7_scale) (maxL := 5) (ret := (some .int)) (by decide) rfl ?_
  intro p e s m args below meth c s₁ B hml hv
  obtain ⟨rfl, hsz, hP, hK, hD0⟩ := hv
  have hx := B.exec
  have hb := B.bytes
  have hr := B.returns
  have hts := atoms_spec (ws := wsX7_scale) B.pre
  have hown : s.vm.findClass RX7 = some m.cls := findClass_of_methodNamed B.named
  have hlocks := B.notSynchronized
  have hinX7 : ∀ w ∈ u_ws RX7 TX7 16, w ∈ wsX7_scale := by decide +kernel
  have hcst126 := hts (.constant RX7 126 1000000000) (by decide +kernel)
  have hf114 := hts (.fieldLink RX7 114 "PulseSignsModel" "above" "J") (by decide +kernel)
  have hf118 := hts (.fieldLink RX7 118 "PulseSignsModel" "below" "J") (by decide +kernel)
  subst hsz
  have hD := hD0.self (sz := s.heap.size)
  generalize hAe : va_A [(h, .inr (5, [.ref a0, .ref a1, .int (nI fn), .ref a3, .int (nI rn), .ref a5, .ref a6, .int (nI wn), .ref a8, .int (nI bs), .int re, .int ot, .ref a12, .long ab, .long be, .long hh])), (a0, .inl (cI, 6, .inl (fun i => nI (sn i)))), (a1, .inl (cI, 96, .inl tu)), (a3, .inl (cI, 24, .inl we)), (a5, .inl (cI, 4, .inl (fun i => nI (per i)))), (a6, .inl (cI, 4, .inl rea)), (a8, .inl (cI, 64, .inl rw)), (a12, .inl (cI, 16, .inl cp))] s.heap.size = A at hD ⊢
  have hA : ∀ q : Nat, s.heap.size ≤ q → A q := fun q h => by rw [← hAe]; exact Or.inr h
  have hS : va_S A s.heap s.heap [] := va_S.rf
  have hP : va_P D vwCl [(h, .inr (5, [.ref a0, .ref a1, .int (nI fn), .ref a3, .int (nI rn), .ref a5, .ref a6, .int (nI wn), .ref a8, .int (nI bs), .int re, .int ot, .ref a12, .long ab, .long be, .long hh])), (a0, .inl (cI, 6, .inl (fun i => nI (sn i)))), (a1, .inl (cI, 96, .inl tu)), (a3, .inl (cI, 24, .inl we)), (a5, .inl (cI, 4, .inl (fun i => nI (per i)))), (a6, .inl (cI, 4, .inl rea)), (a8, .inl (cI, 64, .inl rw)), (a12, .inl (cI, 16, .inl cp))] s.heap := hP
  have hl := lv_entry ([.ref h, .int xn, .int xk, .int u]) (n := 5) (Nat.le_of_ble_eq_true rfl)
  rw [lg_entry_eq]
  generalize (lg_sl ([.ref h, .int xn, .int xk, .int u]) ++ List.replicate (5 - (lg_sl ([.ref h, .int xn, .int xk, .int u])).length) Slot.unset).toArray = ls at hl ⊢
  refine w_Q (fun Q hQ => ?_)
  have hl : lv_has ls 5 [(0, .ref h), (1, .int xn), (2, .int xk), (3, .int u)] := hl
  rw [fX7_scale] at hF
  refine lv_iload_n hx hb dX7_scale_0 rfl (lv_at hl 1 rfl) ?_
  refine lv_iconst (v := 1) hx hb dX7_scale_1 (by decide) ?_
  refine lv_bipush (v := 8) hx hb dX7_scale_2 (by decide) ?_
  have hPc := hP.sub (ws' := []) [] rfl
  refine cs_i (va_runS (As := [.int xn, .int 1, .int 8]) (rest := []) ⟨hx, hb, hml, hown, hts⟩ (c_X7_in l D cI xn 1 8 ) (va_cwS 3 hts gX7_scale_X7_in rfl rfl rfl (by decide +kernel) ⟨(Nat.le_of_ble_eq_true rfl), (Nat.le_of_ble_eq_true rfl)⟩) (ro_pre hPc hK) rfl rfl hl.1 rfl (lv_room (Nat.le_of_ble_eq_true rfl)) dX7_scale_4 ⟨Nat.zero_le _, Nat.zero_le _⟩) ?_
  refine lv_if_eq (tgt := 29) hx hb dX7_scale_7 (by decide) (fun c7 => ?_) (fun c7 => ?_)
  · rw [if_pos c7] at hF
    refine lv_bipush (v := (-102)) hx hb dX7_scale_29 (by decide) ?_
    subst hF
    subst hQ
    exact W.iret (v := (-102)) hx hb hr (fun u9 ht hW => ⟨⟨_, (), rfl, rfl, by rw [← ht] at hP; exact hP⟩, hS.F ht⟩) hS.2.2 dX7_scale_31
  · rw [if_neg c7] at hF
    refine lv_iload_n hx hb dX7_scale_10 rfl (lv_at hl 2 rfl) ?_
    refine lv_iconst (v := 1) hx hb dX7_scale_11 (by decide) ?_
    refine lv_iload_n hx hb dX7_scale_12 rfl (lv_at hl 1 rfl) ?_
    have hPc := hP.sub (ws' := []) [] rfl
    refine cs_i (va_runS (As := [.int xk, .int 1, .int xn]) (rest := []) ⟨hx, hb, hml, hown, hts⟩ (c_X7_in l D cI xk 1 xn ) (va_cwS 3 hts gX7_scale_X7_in rfl rfl rfl (by decide +kernel) ⟨(Nat.le_of_ble_eq_true rfl), (Nat.le_of_ble_eq_true rfl)⟩) (ro_pre hPc hK) rfl rfl hl.1 rfl (lv_room (Nat.le_of_ble_eq_true rfl)) dX7_scale_13 ⟨Nat.zero_le _, Nat.zero_le _⟩) ?_
    refine lv_if_eq (tgt := 29) hx hb dX7_scale_16 (by decide) (fun c16 => ?_) (fun c16 => ?_)
    · rw [if_pos c16] at hF
      refine lv_bipush (v := (-102)) hx hb dX7_scale_29 (by decide) ?_
      subst hF
      subst hQ
      exact W.iret (v := (-102)) hx hb hr (fun u9 ht hW => ⟨⟨_, (), rfl, rfl, by rw [← ht] at hP; exact hP⟩, hS.F ht⟩) hS.2.2 dX7_scale_31
    · rw [if_neg c16] at hF
      refine lv_iload_n hx hb dX7_scale_19 rfl (lv_at hl 3 rfl) ?_
      refine lv_iconst (v := 1) hx hb dX7_scale_20 (by decide) ?_
      refine lv_ldc (v := 1000000000) hx hb hown hcst126 dX7_scale_21 ?_
      have hPc := hP.sub (ws' := []) [] rfl
      refine cs_i (va_runS (As := [.int u, .int 1, .int 1000000000]) (rest := []) ⟨hx, hb, hml, hown, hts⟩ (c_X7_in l D cI u 1 1000000000 ) (va_cwS 3 hts gX7_scale_X7_in rfl rfl rfl (by decide +kernel) ⟨(Nat.le_of_ble_eq_true rfl), (Nat.le_of_ble_eq_true rfl)⟩) (ro_pre hPc hK) rfl rfl hl.1 rfl (lv_room (Nat.le_of_ble_eq_true rfl)) dX7_scale_23 ⟨Nat.zero_le _, Nat.zero_le _⟩) ?_
      refine lv_if_ne (tgt := 32) hx hb dX7_scale_26 (by decide) (fun c26 => ?_) (fun c26 => ?_)
      · rw [if_neg c26] at hF
        obtain ⟨kn, hkn1, hkn, rfl⟩ := share_k c7 c16
        have e_kn : (nI kn).toNatClampNeg = kn := nI_clamp (by omega)
        try simp only [e_kn] at hF
        refine lv_iconst (v := 1) hx hb dX7_scale_32 (by decide) ?_
        refine lv_istore (lv' := [(4, .int 1), (0, .ref h), (1, .int xn), (2, .int (nI kn)), (3, .int u)]) hx hb dX7_scale_33 hl (by decide) rfl (fun ls hl => ?_)
        have lp35 : ∀ (r35 k35 : Nat) (ab : Int64) (be : Int64) (H : Heap) (locs : List Loc) (ls : Array Slot), r35 = (40 + 1) - k35 → k35 ≤ (40 + 1) + 1 → va_P D vwCl [(h, .inr (5, [.ref a0, .ref a1, .int (nI fn), .ref a3, .int (nI rn), .ref a5, .ref a6, .int (nI wn), .ref a8, .int (nI bs), .int re, .int ot, .ref a12, .long ab, .long be, .long hh])), (a0, .inl (cI, 6, .inl (fun i => nI (sn i)))), (a1, .inl (cI, 96, .inl tu)), (a3, .inl (cI, 24, .inl we)), (a5, .inl (cI, 4, .inl (fun i => nI (per i)))), (a6, .inl (cI, 4, .inl rea)), (a8, .inl (cI, 64, .inl rw)), (a12, .inl (cI, 16, .inl cp))] H → va_D A [(h, .inr (5, [.ref a0, .ref a1, .int (nI fn), .ref a3, .int (nI rn), .ref a5, .ref a6, .int (nI wn), .ref a8, .int (nI bs), .int re, .int ot, .ref a12, .long ab, .long be, .long hh])), (a0, .inl (cI, 6, .inl (fun i => nI (sn i)))), (a1, .inl (cI, 96, .inl tu)), (a3, .inl (cI, 24, .inl we)), (a5, .inl (cI, 4, .inl (fun i => nI (per i)))), (a6, .inl (cI, 4, .inl rea)), (a8, .inl (cI, 64, .inl rw)), (a12, .inl (cI, 16, .inl cp))] → va_S A s.heap H locs → lv_has ls 5 [(0, .ref h), (1, .int xn), (2, .int (nI kn)), (3, .int u), (4, .int (nI k35))] → F_X7_scale_35 xn u kn r35 k35 ab be = T → W p l e (headSpec wsX7_scale rmX7_scale).room s m ([.ref h, .int xn, .int (nI kn), .int u] : List Value).toArray below meth c H locs 0 0 Q (F0 m 35 ls []) := by
          intro r35
          induction r35 with
          | zero =>
            intro k35 ab be H locs ls hi35_0 hi35_1 hP hD hS hl hF
            rw [F_X7_scale_35] at hF
            refine lv_iload hx hb dX7_scale_35 (lv_at hl 4 rfl) ?_
            refine lv_bipush (v := 40) hx hb dX7_scale_37 (by decide) ?_
            refine lv_icmp_gt (tgt := 74) hx hb dX7_scale_39 (by decide) (fun c39 => ?_) (fun c39 => ?_)
            · skip
              refine lv_iconst (v := (-1)) hx hb dX7_scale_74 (by decide) ?_
              subst hF
              subst hQ
              exact W.iret (v := (-1)) hx hb hr (fun u9 ht hW => ⟨⟨_, (), rfl, rfl, by rw [← ht] at hP; exact hP⟩, hS.F ht⟩) hS.2.2 dX7_scale_75
            · exact False.elim (c39 (nI_lt (a := 40) (b := k35) (by omega) (by omega)))
          | succ r35 ih35 =>
            intro k35 ab be H locs ls hi35_0 hi35_1 hP hD hS hl hF
            rw [F_X7_scale_35] at hF
            refine lv_iload hx hb dX7_scale_35 (lv_at hl 4 rfl) ?_
            refine lv_bipush (v := 40) hx hb dX7_scale_37 (by decide) ?_
            refine lv_icmp_gt (tgt := 74) hx hb dX7_scale_39 (by decide) (fun c39 => ?_) (fun c39 => ?_)
            · exact False.elim (nI_nlt (a := 40) (b := k35) (by omega) (by omega) c39)
            · skip
              refine lv_aload_n hx hb dX7_scale_42 rfl (lv_at hl 0 rfl) ?_
              refine lv_iload_n hx hb dX7_scale_43 rfl (lv_at hl 1 rfl) ?_
              refine lv_iload_n hx hb dX7_scale_44 rfl (lv_at hl 2 rfl) ?_
              refine lv_iload hx hb dX7_scale_45 (lv_at hl 4 rfl) ?_
              refine cw_v (va_runV (As := [.int xn, .int (nI kn), .int (nI k35)]) (rest := []) ⟨hx, hb, hml, hown, hts⟩ (c_X7_falses l D cI H.size h a0 a1 a3 a5 a6 a8 a12 sn tu fn we rn per rea wn rw bs re ot cp ab be hh xn kn (nI k35) (by first | assumption | omega)) (cwV 3 hts gX7_scale_X7_falses rfl rfl rfl (by decide +kernel) ⟨(Nat.le_of_ble_eq_true rfl), (Nat.le_of_ble_eq_true rfl)⟩) (wr_preV hP hD hK rfl (q0 := 0) rfl) rfl rfl hl.1 rfl (lv_room (Nat.le_of_ble_eq_true rfl)) dX7_scale_47 ⟨Nat.zero_le _, Nat.zero_le _⟩) hP hD hS hA [0, 1, 2, 3, 4, 5, 6, 7] rfl rfl (fun H locs hP hD hS => ?_)
              have hP : va_P D vwCl [(h, .inr (5, [.ref a0, .ref a1, .int (nI fn), .ref a3, .int (nI rn), .ref a5, .ref a6, .int (nI wn), .ref a8, .int (nI bs), .int re, .int ot, .ref a12, .long ((fX7_falses xn kn (nI k35)).1), .long ((fX7_falses xn kn (nI k35)).2), .long hh])), (a0, .inl (cI, 6, .inl (fun i => nI (sn i)))), (a1, .inl (cI, 96, .inl tu)), (a3, .inl (cI, 24, .inl we)), (a5, .inl (cI, 4, .inl (fun i => nI (per i)))), (a6, .inl (cI, 4, .inl rea)), (a8, .inl (cI, 64, .inl rw)), (a12, .inl (cI, 16, .inl cp))] H := hP
              have hD : va_D A [(h, .inr (5, [.ref a0, .ref a1, .int (nI fn), .ref a3, .int (nI rn), .ref a5, .ref a6, .int (nI wn), .ref a8, .int (nI bs), .int re, .int ot, .ref a12, .long ((fX7_falses xn kn (nI k35)).1), .long ((fX7_falses xn kn (nI k35)).2), .long hh])), (a0, .inl (cI, 6, .inl (fun i => nI (sn i)))), (a1, .inl (cI, 96, .inl tu)), (a3, .inl (cI, 24, .inl we)), (a5, .inl (cI, 4, .inl (fun i => nI (per i)))), (a6, .inl (cI, 4, .inl rea)), (a8, .inl (cI, 64, .inl rw)), (a12, .inl (cI, 16, .inl cp))] := hD
              refine lv_aload_n hx hb dX7_scale_50 rfl (lv_at hl 0 rfl) ?_
              refine va_get (D := D) (ci := 5) (v := .long ((fX7_falses xn kn (nI k35)).1)) (C := RX7) (T := TX7) (N := 16) hx hb hts hinX7 hown hK.1 hP 0 rfl rfl 13 (by decide) hf114 (fun _ h9 => h9) rfl dX7_scale_51 ?_
              refine lv_iload_n hx hb dX7_scale_54 rfl (lv_at hl 3 rfl) ?_
              refine lv_i2l hx hb dX7_scale_55 rfl ?_
              refine lv_lmul hx hb dX7_scale_56 ?_
              refine lv_aload_n hx hb dX7_scale_57 rfl (lv_at hl 0 rfl) ?_
              refine va_get (D := D) (ci := 5) (v := .long ((fX7_falses xn kn (nI k35)).2)) (C := RX7) (T := TX7) (N := 16) hx hb hts hinX7 hown hK.1 hP 0 rfl rfl 14 (by decide) hf118 (fun _ h9 => h9) rfl dX7_scale_58 ?_
              refine W.lcmp hx hb dX7_scale_61 ?_
              refine lv_if_gt (tgt := 68) hx hb dX7_scale_62 (by decide) (fun c62 => ?_) (fun c62 => ?_)
              · rw [if_pos c62] at hF
                refine lv_iinc (v := nI (k35 + 1)) (lv' := [(4, .int (nI (k35 + 1))), (0, .ref h), (1, .int xn), (2, .int (nI kn)), (3, .int u)]) hx hb dX7_scale_68 hl (k := 4) rfl (nI_1 _) (by decide) rfl (fun ls hl => ?_)
                refine lv_goto (tgt := 35) hx hb dX7_scale_71 (by decide) ?_
                exact ih35 (k35 + 1) ((fX7_falses xn kn (nI k35)).1) ((fX7_falses xn kn (nI k35)).2) H locs ls (by omega) (by omega) hP hD hS (lv_sub hl [1, 2, 3, 4, 0] rfl) hF
              · rw [if_neg c62] at hF
                refine lv_iload hx hb dX7_scale_65 (lv_at hl 4 rfl) ?_
                subst hF
                subst hQ
                exact W.iret (v := nI k35) hx hb hr (fun u9 ht hW => ⟨⟨_, (), rfl, rfl, by rw [← ht] at hP; exact hP⟩, hS.F ht⟩) hS.2.2 dX7_scale_67
        exact lp35 ((40 + 1) - 1) 1 ab be s.heap _ ls rfl (by omega) hP hD hS (lv_sub hl [1, 2, 3, 4, 0] rfl) hF
      · rw [if_pos c26] at hF
        refine lv_bipush (v := (-102)) hx hb dX7_scale_29 (by decide) ?_
        subst hF
        subst hQ
        exact W.iret (v := (-102)) hx hb hr (fun u9 ht hW => ⟨⟨_, (), rfl, rfl, by rw [← ht] at hP; exact hP⟩, hS.F ht⟩) hS.2.2 dX7_scale_31
