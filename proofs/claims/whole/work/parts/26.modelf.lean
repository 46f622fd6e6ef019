def F_X7_pair_39 (sn : Nat → Nat) (tu : Nat → Int32) (an : Nat) (bn : Nat) : Nat → Nat → Int32 → Int32 → Int32 → (Int32 × Int32 × Int32)
  | 0, k39, x3, re, ot => (if x3 = 0 then (0, re, ot) else (1, re, ot))
  | r39 + 1, k39, x3, re, ot => (if x3 = 0 then (if x3 = 0 then (0, re, ot) else (1, re, ot)) else (if (((fX7_looks sn tu an an (nI k39) 0).2.1) + ((fX7_looks sn tu bn bn (nI k39) 0).2.1)) = 0 then (if (((fX7_looks sn tu an an (nI k39) 0).2.2) + ((fX7_looks sn tu bn bn (nI k39) 0).2.2)) = 0 then F_X7_pair_39 sn tu an bn r39 (k39 + 1) 1 ((fX7_looks sn tu bn bn (nI k39) 0).2.1) ((fX7_looks sn tu bn bn (nI k39) 0).2.2) else F_X7_pair_39 sn tu an bn r39 (k39 + 1) 0 ((fX7_looks sn tu bn bn (nI k39) 0).2.1) ((fX7_looks sn tu bn bn (nI k39) 0).2.2)) else F_X7_pair_39 sn tu an bn r39 (k39 + 1) 0 ((fX7_looks sn tu bn bn (nI k39) 0).2.1) ((fX7_looks sn tu bn bn (nI k39) 0).2.2)))
def fX7_pair (sn : Nat → Nat) (tu : Nat → Int32) (re : Int32) (ot : Int32) (xa : Int32) (xb : Int32) : Int32 × Int32 × Int32 := (if (fX7_isSign xa) = 0 then ((-101), re, ot) else (if (fX7_isSign xb) = 0 then ((-101), re, ot) else (if (nI (sn (xa.toNatClampNeg))) = (nI (sn (xb.toNatClampNeg))) then F_X7_pair_39 sn tu (xa.toNatClampNeg) (xb.toNatClampNeg) ((sn (xa.toNatClampNeg)) - 1) 1 1 re ot else (0, re, ot))))
abbrev rmX7_pair : Room := { frames := 2, cells := 0, slots := 0, locals := 47 }
set_option maxHeartbeats 4000000 in
set_option maxRecDepth 100000 in
theorem c_X7_pair (l : Launch) (D : va_G) (cI : ClassId) (sz : Nat) (h : Nat) (a0 : Nat) (a1 : Nat) (a3 : Nat) (a5 : Nat) (a6 : Nat) (a8 : Nat) (a12 : Nat) (sn : Nat → Nat) (tu : Nat → Int32) (fn : Nat) (we : Nat → Int32) (rn : Nat) (per : Nat → Nat) (rea : Nat → Int32) (wn : Nat) (rw : Nat → Int32) (bs : Nat) (re : Int32) (ot : Int32) (cp : Nat → Int32) (ab : Int64) (be : Int64) (hh : Int64) (xa : Int32) (xb : Int32) (hsn : ∀ c, c < 6 → 1 ≤ sn c ∧ sn c ≤ 16) : Met l yX7_pair wsX7_pair rmX7_pair (va_Pc [.ref h, .int xa, .int xb] (wrP D [(cI, .int)] [(h, .inr (5, [.ref a0, .ref a1, .int (nI fn), .ref a3, .int (nI rn), .ref a5, .ref a6, .int (nI wn), .ref a8, .int (nI bs), .int re, .int ot, .ref a12, .long ab, .long be, .long hh])), (a0, .inl (cI, 6, .inl (fun i => nI (sn i)))), (a1, .inl (cI, 96, .inl tu)), (a3, .inl (cI, 24, .inl we)), (a5, .inl (cI, 4, .inl (fun i => nI (per i)))), (a6, .inl (cI, 4, .inl rea)), (a8, .inl (cI, 64, .inl rw)), (a12, .inl (cI, 16, .inl cp))] sz)) (va_Qi (fun r9 (_ : Unit) => r9 = (fX7_pair sn tu re ot xa xb).1) (fun _ u9 => va_P D vwCl [(h, .inr (5, [.ref a0, .ref a1, .int (nI fn), .ref a3, .int (nI rn), .ref a5, .ref a6, .int (nI wn), .ref a8, .int (nI bs), .int ((fX7_pair sn tu re ot xa xb).2.1), .int ((fX7_pair sn tu re ot xa xb).2.2), .ref a12, .long ab, .long be, .long hh])), (a0, .inl (cI, 6, .inl (fun i => nI (sn i)))), (a1, .inl (cI, 96, .inl tu)), (a3, .inl (cI, 24, .inl we)), (a5, .inl (cI, 4, .inl (fun i => nI (per i)))), (a6, .inl (cI, 4, .inl rea)), (a8, .inl (cI, 64, .inl rw)), (a12, .inl (cI, 16, .inl cp))] u9.heap) (va_A [(h, .inr (5, [.ref a0, .ref a1, .int (nI fn), .ref a3, .int (nI rn), .ref a5, .ref a6, .int (nI wn), .ref a8, .int (nI bs), .int re, .int ot, .ref a12, .long ab, .long be, .long hh])), (a0, .inl (cI, 6, .inl (fun i => nI (sn i)))), (a1, .inl (cI, 96, .inl tu)), (a3, .inl (cI, 24, .inl we)), (a5, .inl (cI, 4, .inl (fun i => nI (per i)))), (a6, .inl (cI, 4, .inl rea)), (a8, .inl (cI, 64, .inl rw)), (a12, .inl (cI, 16, .inl cp))] sz)) 0 0 (va_A [(h, .inr (5, [.ref a0, .ref a1, .int (nI fn), .ref a3, .int (nI rn), .ref a5, .ref a6, .int (nI wn), .ref a8, .int (nI bs), .int re, .int ot, .ref a12, .long ab, .long be, .long hh])), (a0, .inl (cI, 6, .inl (fun i => nI (sn i)))), (a1, .inl (cI, 96, .inl tu)), (a3, .inl (cI, 24, .inl we)), (a5, .inl (cI, 4, .inl (fun i => nI (per i)))), (a6, .inl (cI, 4, .inl rea)), (a8, .inl (cI, 64, .inl rw)), (a12, .inl (cI, 16, .inl cp))] sz) := by
  generalize hF : fX7_pair sn tu re ot xa xb = T
  refine Met.ofW (cc := cX7_pair) (maxL := 7) (ret := (some .int)) (by decide) rfl ?_
  intro p e s m args below meth c s₁ B hml hv
  obtain ⟨rfl, hsz, hP, hK, hD0⟩ := hv
  have hx := B.exec
  have hb := B.bytes
  have hr := B.returns
  have hts := atoms_spec (ws := wsX7_pair) B.pre
  have hown : s.vm.findClass RX7 = some m.cls := findClass_of_methodNamed B.named
  have hlocks := B.notSynchronized
  have hinX7 : ∀ w ∈ u_ws RX7 TX7 16, w ∈ wsX7_pair := by decide +kernel
  have hf7 := hts (.fieldLink RX7 7 "PulseSignsModel" "sizes" "[I") (by decide +kernel)
  have hf46 := hts (.fieldLink RX7 46 "PulseSignsModel" "real" "I") (by decide +kernel)
  have hf49 := hts (.fieldLink RX7 49 "PulseSignsModel" "other" "I") (by decide +kernel)
  subst hsz
  have hD := hD0.self (sz := s.heap.size)
  generalize hAe : va_A [(h, .inr (5, [.ref a0, .ref a1, .int (nI fn), .ref a3, .int (nI rn), .ref a5, .ref a6, .int (nI wn), .ref a8, .int (nI bs), .int re, .int ot, .ref a12, .long ab, .long be, .long hh])), (a0, .inl (cI, 6, .inl (fun i => nI (sn i)))), (a1, .inl (cI, 96, .inl tu)), (a3, .inl (cI, 24, .inl we)), (a5, .inl (cI, 4, .inl (fun i => nI (per i)))), (a6, .inl (cI, 4, .inl rea)), (a8, .inl (cI, 64, .inl rw)), (a12, .inl (cI, 16, .inl cp))] s.heap.size = A at hD ⊢
  have hA : ∀ q : Nat, s.heap.size ≤ q → A q := fun q h => by rw [← hAe]; exact Or.inr h
  have hS : va_S A s.heap s.heap [] := va_S.rf
  have hP : va_P D vwCl [(h, .inr (5, [.ref a0, .ref a1, .int (nI fn), .ref a3, .int (nI rn), .ref a5, .ref a6, .int (nI wn), .ref a8, .int (nI bs), .int re, .int ot, .ref a12, .long ab, .long be, .long hh])), (a0, .inl (cI, 6, .inl (fun i => nI (sn i)))), (a1, .inl (cI, 96, .inl tu)), (a3, .inl (cI, 24, .inl we)), (a5, .inl (cI, 4, .inl (fun i => nI (per i)))), (a6, .inl (cI, 4, .inl rea)), (a8, .inl (cI, 64, .inl rw)), (a12, .inl (cI, 16, .inl cp))] s.heap := hP
  have hl := lv_entry ([.ref h, .int xa, .int xb]) (n := 7) (Nat.le_of_ble_eq_true rfl)
  rw [lg_entry_eq]
  generalize (lg_sl ([.ref h, .int xa, .int xb]) ++ List.replicate (7 - (lg_sl ([.ref h, .int xa, .int xb])).length) Slot.unset).toArray = ls at hl ⊢
  refine w_Q (fun Q hQ => ?_)
  have hl : lv_has ls 7 [(0, .ref h), (1, .int xa), (2, .int xb)] := hl
  rw [fX7_pair] at hF
  refine lv_iload_n hx hb dX7_pair_0 rfl (lv_at hl 1 rfl) ?_
  have hPc := hP.sub (ws' := []) [] rfl
  refine cs_i (va_runS (As := [.int xa]) (rest := []) ⟨hx, hb, hml, hown, hts⟩ (c_X7_isSign l D cI xa ) (va_cwS 1 hts gX7_pair_X7_isSign rfl rfl rfl (by decide +kernel) ⟨(Nat.le_of_ble_eq_true rfl), (Nat.le_of_ble_eq_true rfl)⟩) (ro_pre hPc hK) rfl rfl hl.1 rfl (lv_room (Nat.le_of_ble_eq_true rfl)) dX7_pair_1 ⟨Nat.zero_le _, Nat.zero_le _⟩) ?_
  refine lv_if_eq (tgt := 14) hx hb dX7_pair_4 (by decide) (fun c4 => ?_) (fun c4 => ?_)
  · rw [if_pos c4] at hF
    refine lv_bipush (v := (-101)) hx hb dX7_pair_14 (by decide) ?_
    subst hF
    subst hQ
    exact W.iret (v := (-101)) hx hb hr (fun u9 ht hW => ⟨⟨_, (), rfl, rfl, by rw [← ht] at hP; exact hP⟩, hS.F ht⟩) hS.2.2 dX7_pair_16
  · rw [if_neg c4] at hF
    obtain ⟨an, han, rfl⟩ := sign_nat c4
    have h16 := hsn an (by omega)
    have e_an : (nI an).toNatClampNeg = an := nI_clamp (by omega)
    try simp only [e_an] at hF
    refine lv_iload_n hx hb dX7_pair_7 rfl (lv_at hl 2 rfl) ?_
    have hPc := hP.sub (ws' := []) [] rfl
    refine cs_i (va_runS (As := [.int xb]) (rest := []) ⟨hx, hb, hml, hown, hts⟩ (c_X7_isSign l D cI xb ) (va_cwS 1 hts gX7_pair_X7_isSign rfl rfl rfl (by decide +kernel) ⟨(Nat.le_of_ble_eq_true rfl), (Nat.le_of_ble_eq_true rfl)⟩) (ro_pre hPc hK) rfl rfl hl.1 rfl (lv_room (Nat.le_of_ble_eq_true rfl)) dX7_pair_8 ⟨Nat.zero_le _, Nat.zero_le _⟩) ?_
    refine lv_if_ne (tgt := 17) hx hb dX7_pair_11 (by decide) (fun c11 => ?_) (fun c11 => ?_)
    · rw [if_neg c11] at hF
      obtain ⟨bn, hbn, rfl⟩ := sign_nat c11
      have e_bn : (nI bn).toNatClampNeg = bn := nI_clamp (by omega)
      try simp only [e_bn] at hF
      refine lv_aload_n hx hb dX7_pair_17 rfl (lv_at hl 0 rfl) ?_
      refine va_get (D := D) (ci := 5) (v := .ref a0) (C := RX7) (T := TX7) (N := 16) hx hb hts hinX7 hown hK.1 hP 0 rfl rfl 0 (by decide) hf7 (fun _ h9 => h9) rfl dX7_pair_18 ?_
      refine lv_iload_n hx hb dX7_pair_21 rfl (lv_at hl 1 rfl) ?_
      refine w_ald hx hb hK hP 1 0 rfl rfl (an) rfl (by omega) (by omega) dX7_pair_22 ?_
      refine lv_aload_n hx hb dX7_pair_23 rfl (lv_at hl 0 rfl) ?_
      refine va_get (D := D) (ci := 5) (v := .ref a0) (C := RX7) (T := TX7) (N := 16) hx hb hts hinX7 hown hK.1 hP 0 rfl rfl 0 (by decide) hf7 (fun _ h9 => h9) rfl dX7_pair_24 ?_
      refine lv_iload_n hx hb dX7_pair_27 rfl (lv_at hl 2 rfl) ?_
      refine w_ald hx hb hK hP 1 0 rfl rfl (bn) rfl (by omega) (by omega) dX7_pair_28 ?_
      refine lv_icmp_eq (tgt := 34) hx hb dX7_pair_29 (by decide) (fun c29 => ?_) (fun c29 => ?_)
      · rw [if_pos c29] at hF
        refine lv_iconst (v := 1) hx hb dX7_pair_34 (by decide) ?_
        refine lv_istore_n (lv' := [(3, .int 1), (0, .ref h), (1, .int (nI an)), (2, .int (nI bn))]) hx hb dX7_pair_35 rfl hl (by decide) rfl (fun ls hl => ?_)
        refine lv_iconst (v := 1) hx hb dX7_pair_36 (by decide) ?_
        refine lv_istore (lv' := [(4, .int 1), (3, .int 1), (0, .ref h), (1, .int (nI an)), (2, .int (nI bn))]) hx hb dX7_pair_37 hl (by decide) rfl (fun ls hl => ?_)
        have lp39 : ∀ (r39 k39 : Nat) (x3 : Int32) (re : Int32) (ot : Int32) (H : Heap) (locs : List Loc) (ls : Array Slot), r39 = (sn an) - k39 → k39 ≤ (sn an) + 1 → va_P D vwCl [(h, .inr (5, [.ref a0, .ref a1, .int (nI fn), .ref a3, .int (nI rn), .ref a5, .ref a6, .int (nI wn), .ref a8, .int (nI bs), .int re, .int ot, .ref a12, .long ab, .long be, .long hh])), (a0, .inl (cI, 6, .inl (fun i => nI (sn i)))), (a1, .inl (cI, 96, .inl tu)), (a3, .inl (cI, 24, .inl we)), (a5, .inl (cI, 4, .inl (fun i => nI (per i)))), (a6, .inl (cI, 4, .inl rea)), (a8, .inl (cI, 64, .inl rw)), (a12, .inl (cI, 16, .inl cp))] H → va_D A [(h, .inr (5, [.ref a0, .ref a1, .int (nI fn), .ref a3, .int (nI rn), .ref a5, .ref a6, .int (nI wn), .ref a8, .int (nI bs), .int re, .int ot, .ref a12, .long ab, .long be, .long hh])), (a0, .inl (cI, 6, .inl (fun i => nI (sn i)))), (a1, .inl (cI, 96, .inl tu)), (a3, .inl (cI, 24, .inl we)), (a5, .inl (cI, 4, .inl (fun i => nI (per i)))), (a6, .inl (cI, 4, .inl rea)), (a8, .inl (cI, 64, .inl rw)), (a12, .inl (cI, 16, .inl cp))] → va_S A s.heap H locs → lv_has ls 7 [(0, .ref h), (1, .int (nI an)), (2, .int (nI bn)), (3, .int x3), (4, .int (nI k39))] → F_X7_pair_39 sn tu an bn r39 k39 x3 re ot = T → W p l e (headSpec wsX7_pair rmX7_pair).room s m ([.ref h, .int (nI an), .int (nI bn)] : List Value).toArray below meth c H locs 0 0 Q (F0 m 39 ls []) := by
          intro r39
          induction r39 with
          | zero =>
            intro k39 x3 re ot H locs ls hi39_0 hi39_1 hP hD hS hl hF
            rw [F_X7_pair_39] at hF
            refine lv_iload hx hb dX7_pair_39 (lv_at hl 4 rfl) ?_
            refine lv_aload_n hx hb dX7_pair_41 rfl (lv_at hl 0 rfl) ?_
            refine va_get (D := D) (ci := 5) (v := .ref a0) (C := RX7) (T := TX7) (N := 16) hx hb hts hinX7 hown hK.1 hP 0 rfl rfl 0 (by decide) hf7 (fun _ h9 => h9) rfl dX7_pair_42 ?_
            refine lv_iload_n hx hb dX7_pair_45 rfl (lv_at hl 1 rfl) ?_
            refine w_ald hx hb hK hP 1 0 rfl rfl (an) rfl (by omega) (by omega) dX7_pair_46 ?_
            refine lv_icmp_ge (tgt := 118) hx hb dX7_pair_47 (by decide) (fun c47 => ?_) (fun c47 => ?_)
            · skip
              refine lv_iload_n hx hb dX7_pair_118 rfl (lv_at hl 3 rfl) ?_
              refine lv_if_eq (tgt := 126) hx hb dX7_pair_119 (by decide) (fun c119 => ?_) (fun c119 => ?_)
              · rw [if_pos c119] at hF
                refine lv_iconst (v := 0) hx hb dX7_pair_126 (by decide) ?_
                subst hF
                subst hQ
                exact W.iret (v := 0) hx hb hr (fun u9 ht hW => ⟨⟨_, (), rfl, rfl, by rw [← ht] at hP; exact hP⟩, hS.F ht⟩) hS.2.2 dX7_pair_127
              · rw [if_neg c119] at hF
                refine lv_iconst (v := 1) hx hb dX7_pair_122 (by decide) ?_
                refine lv_goto (tgt := 127) hx hb dX7_pair_123 (by decide) ?_
                subst hF
                subst hQ
                exact W.iret (v := 1) hx hb hr (fun u9 ht hW => ⟨⟨_, (), rfl, rfl, by rw [← ht] at hP; exact hP⟩, hS.F ht⟩) hS.2.2 dX7_pair_127
            · exact False.elim (c47 (nI_le (a := (sn an)) (b := k39) (by omega) (by omega)))
          | succ r39 ih39 =>
            intro k39 x3 re ot H locs ls hi39_0 hi39_1 hP hD hS hl hF
            rw [F_X7_pair_39] at hF
            refine lv_iload hx hb dX7_pair_39 (lv_at hl 4 rfl) ?_
            refine lv_aload_n hx hb dX7_pair_41 rfl (lv_at hl 0 rfl) ?_
            refine va_get (D := D) (ci := 5) (v := .ref a0) (C := RX7) (T := TX7) (N := 16) hx hb hts hinX7 hown hK.1 hP 0 rfl rfl 0 (by decide) hf7 (fun _ h9 => h9) rfl dX7_pair_42 ?_
            refine lv_iload_n hx hb dX7_pair_45 rfl (lv_at hl 1 rfl) ?_
            refine w_ald hx hb hK hP 1 0 rfl rfl (an) rfl (by omega) (by omega) dX7_pair_46 ?_
            refine lv_icmp_ge (tgt := 118) hx hb dX7_pair_47 (by decide) (fun c47 => ?_) (fun c47 => ?_)
            · exact False.elim (nI_ge (a := k39) (b := (sn an)) (by omega) (by omega) c47)
            · skip
              refine lv_iload_n hx hb dX7_pair_50 rfl (lv_at hl 3 rfl) ?_
              refine lv_if_eq (tgt := 118) hx hb dX7_pair_51 (by decide) (fun c51 => ?_) (fun c51 => ?_)
              · rw [if_pos c51] at hF
                refine lv_iload_n hx hb dX7_pair_118 rfl (lv_at hl 3 rfl) ?_
                refine lv_if_eq (tgt := 126) hx hb dX7_pair_119 (by decide) (fun c119 => ?_) (fun c119 => ?_)
                · rw [if_pos c119] at hF
                  refine lv_iconst (v := 0) hx hb dX7_pair_126 (by decide) ?_
                  subst hF
                  subst hQ
                  exact W.iret (v := 0) hx hb hr (fun u9 ht hW => ⟨⟨_, (), rfl, rfl, by rw [← ht] at hP; exact hP⟩, hS.F ht⟩) hS.2.2 dX7_pair_127
                · rw [if_neg c119] at hF
                  refine lv_iconst (v := 1) hx hb dX7_pair_122 (by decide) ?_
                  refine lv_goto (tgt := 127) hx hb dX7_pair_123 (by decide) ?_
                  subst hF
                  subst hQ
                  exact W.iret (v := 1) hx hb hr (fun u9 ht hW => ⟨⟨_, (), rfl, rfl, by rw [← ht] at hP; exact hP⟩, hS.F ht⟩) hS.2.2 dX7_pair_127
              · rw [if_neg c51] at hF
                refine lv_aload_n hx hb dX7_pair_54 rfl (lv_at hl 0 rfl) ?_
                refine lv_iload_n hx hb dX7_pair_55 rfl (lv_at hl 1 rfl) ?_
                refine lv_iload_n hx hb dX7_pair_56 rfl (lv_at hl 1 rfl) ?_
                refine lv_iload hx hb dX7_pair_57 (lv_at hl 4 rfl) ?_
                refine lv_iconst (v := 0) hx hb dX7_pair_59 (by decide) ?_
                refine cx_i (va_runV (As := [.int (nI an), .int (nI an), .int (nI k39), .int 0]) (rest := []) ⟨hx, hb, hml, hown, hts⟩ (c_X7_looks l D cI H.size h a0 a1 a3 a5 a6 a8 a12 sn tu fn we rn per rea wn rw bs re ot cp ab be hh an an (nI k39) 0 (by first | assumption | omega) (by first | assumption | omega) (by first | assumption | omega)) (cwV 4 hts gX7_pair_X7_looks rfl rfl rfl (by decide +kernel) ⟨(Nat.le_of_ble_eq_true rfl), (Nat.le_of_ble_eq_true rfl)⟩) (wr_preV hP hD hK rfl (q0 := 0) rfl) rfl rfl hl.1 rfl (lv_room (Nat.le_of_ble_eq_true rfl)) dX7_pair_60 ⟨Nat.zero_le _, Nat.zero_le _⟩) hP hD hS hA [0, 1, 2, 3, 4, 5, 6, 7] rfl [h, a0, a1, a3, a5, a6, a8, a12] rfl rfl (fun H locs hP hD hS => ?_)
                have hP : va_P D vwCl [(h, .inr (5, [.ref a0, .ref a1, .int (nI fn), .ref a3, .int (nI rn), .ref a5, .ref a6, .int (nI wn), .ref a8, .int (nI bs), .int ((fX7_looks sn tu an an (nI k39) 0).2.1), .int ((fX7_looks sn tu an an (nI k39) 0).2.2), .ref a12, .long ab, .long be, .long hh])), (a0, .inl (cI, 6, .inl (fun i => nI (sn i)))), (a1, .inl (cI, 96, .inl tu)), (a3, .inl (cI, 24, .inl we)), (a5, .inl (cI, 4, .inl (fun i => nI (per i)))), (a6, .inl (cI, 4, .inl rea)), (a8, .inl (cI, 64, .inl rw)), (a12, .inl (cI, 16, .inl cp))] H := hP
                have hD : va_D A [(h, .inr (5, [.ref a0, .ref a1, .int (nI fn), .ref a3, .int (nI rn), .ref a5, .ref a6, .int (nI wn), .ref a8, .int (nI bs), .int ((fX7_looks sn tu an an (nI k39) 0).2.1), .int ((fX7_looks sn tu an an (nI k39) 0).2.2), .ref a12, .long ab, .long be, .long hh])), (a0, .inl (cI, 6, .inl (fun i => nI (sn i)))), (a1, .inl (cI, 96, .inl tu)), (a3, .inl (cI, 24, .inl we)), (a5, .inl (cI, 4, .inl (fun i => nI (per i)))), (a6, .inl (cI, 4, .inl rea)), (a8, .inl (cI, 64, .inl rw)), (a12, .inl (cI, 16, .inl cp))] := hD
                refine lv_pop hx hb dX7_pair_63 rfl ?_
                refine lv_aload_n hx hb dX7_pair_64 rfl (lv_at hl 0 rfl) ?_
                refine va_get (D := D) (ci := 5) (v := .int ((fX7_looks sn tu an an (nI k39) 0).2.1)) (C := RX7) (T := TX7) (N := 16) hx hb hts hinX7 hown hK.1 hP 0 rfl rfl 10 (by decide) hf46 (fun _ h9 => h9) rfl dX7_pair_65 ?_
                refine lv_istore (lv' := [(5, .int ((fX7_looks sn tu an an (nI k39) 0).2.1)), (0, .ref h), (1, .int (nI an)), (2, .int (nI bn)), (3, .int x3), (4, .int (nI k39))]) hx hb dX7_pair_68 hl (by decide) rfl (fun ls hl => ?_)
                refine lv_aload_n hx hb dX7_pair_70 rfl (lv_at hl 1 rfl) ?_
                refine va_get (D := D) (ci := 5) (v := .int ((fX7_looks sn tu an an (nI k39) 0).2.2)) (C := RX7) (T := TX7) (N := 16) hx hb hts hinX7 hown hK.1 hP 0 rfl rfl 11 (by decide) hf49 (fun _ h9 => h9) rfl dX7_pair_71 ?_
                refine lv_istore (lv' := [(6, .int ((fX7_looks sn tu an an (nI k39) 0).2.2)), (5, .int ((fX7_looks sn tu an an (nI k39) 0).2.1)), (0, .ref h), (1, .int (nI an)), (2, .int (nI bn)), (3, .int x3), (4, .int (nI k39))]) hx hb dX7_pair_74 hl (by decide) rfl (fun ls hl => ?_)
                refine lv_aload_n hx hb dX7_pair_76 rfl (lv_at hl 2 rfl) ?_
                refine lv_iload_n hx hb dX7_pair_77 rfl (lv_at hl 4 rfl) ?_
                refine lv_iload_n hx hb dX7_pair_78 rfl (lv_at hl 4 rfl) ?_
                refine lv_iload hx hb dX7_pair_79 (lv_at hl 6 rfl) ?_
                refine lv_iconst (v := 0) hx hb dX7_pair_81 (by decide) ?_
                refine cx_i (va_runV (As := [.int (nI bn), .int (nI bn), .int (nI k39), .int 0]) (rest := []) ⟨hx, hb, hml, hown, hts⟩ (c_X7_looks l D cI H.size h a0 a1 a3 a5 a6 a8 a12 sn tu fn we rn per rea wn rw bs ((fX7_looks sn tu an an (nI k39) 0).2.1) ((fX7_looks sn tu an an (nI k39) 0).2.2) cp ab be hh bn bn (nI k39) 0 (by first | assumption | omega) (by first | assumption | omega) (by first | assumption | omega)) (cwV 4 hts gX7_pair_X7_looks rfl rfl rfl (by decide +kernel) ⟨(Nat.le_of_ble_eq_true rfl), (Nat.le_of_ble_eq_true rfl)⟩) (wr_preV hP hD hK rfl (q0 := 0) rfl) rfl rfl hl.1 rfl (lv_room (Nat.le_of_ble_eq_true rfl)) dX7_pair_82 ⟨Nat.zero_le _, Nat.zero_le _⟩) hP hD hS hA [0, 1, 2, 3, 4, 5, 6, 7] rfl [h, a0, a1, a3, a5, a6, a8, a12] rfl rfl (fun H locs hP hD hS => ?_)
                have hP : va_P D vwCl [(h, .inr (5, [.ref a0, .ref a1, .int (nI fn), .ref a3, .int (nI rn), .ref a5, .ref a6, .int (nI wn), .ref a8, .int (nI bs), .int ((fX7_looks sn tu bn bn (nI k39) 0).2.1), .int ((fX7_looks sn tu bn bn (nI k39) 0).2.2), .ref a12, .long ab, .long be, .long hh])), (a0, .inl (cI, 6, .inl (fun i => nI (sn i)))), (a1, .inl (cI, 96, .inl tu)), (a3, .inl (cI, 24, .inl we)), (a5, .inl (cI, 4, .inl (fun i => nI (per i)))), (a6, .inl (cI, 4, .inl rea)), (a8, .inl (cI, 64, .inl rw)), (a12, .inl (cI, 16, .inl cp))] H := hP
                have hD : va_D A [(h, .inr (5, [.ref a0, .ref a1, .int (nI fn), .ref a3, .int (nI rn), .ref a5, .ref a6, .int (nI wn), .ref a8, .int (nI bs), .int ((fX7_looks sn tu bn bn (nI k39) 0).2.1), .int ((fX7_looks sn tu bn bn (nI k39) 0).2.2), .ref a12, .long ab, .long be, .long hh])), (a0, .inl (cI, 6, .inl (fun i => nI (sn i)))), (a1, .inl (cI, 96, .inl tu)), (a3, .inl (cI, 24, .inl we)), (a5, .inl (cI, 4, .inl (fun i => nI (per i)))), (a6, .inl (cI, 4, .inl rea)), (a8, .inl (cI, 64, .inl rw)), (a12, .inl (cI, 16, .inl cp))] := hD
                refine lv_pop hx hb dX7_pair_85 rfl ?_
                refine lv_iload hx hb dX7_pair_86 (lv_at hl 1 rfl) ?_
                refine lv_aload_n hx hb dX7_pair_88 rfl (lv_at hl 2 rfl) ?_
                refine va_get (D := D) (ci := 5) (v := .int ((fX7_looks sn tu bn bn (nI k39) 0).2.1)) (C := RX7) (T := TX7) (N := 16) hx hb hts hinX7 hown hK.1 hP 0 rfl rfl 10 (by decide) hf46 (fun _ h9 => h9) rfl dX7_pair_89 ?_
                refine lv_iadd hx hb dX7_pair_92 ?_
                refine lv_if_ne (tgt := 110) hx hb dX7_pair_93 (by decide) (fun c93 => ?_) (fun c93 => ?_)
                · rw [if_neg c93] at hF
                  refine lv_iconst (v := 0) hx hb dX7_pair_110 (by decide) ?_
                  refine lv_istore_n (lv' := [(3, .int 0), (6, .int ((fX7_looks sn tu an an (nI k39) 0).2.2)), (5, .int ((fX7_looks sn tu an an (nI k39) 0).2.1)), (0, .ref h), (1, .int (nI an)), (2, .int (nI bn)), (4, .int (nI k39))]) hx hb dX7_pair_111 rfl hl (by decide) rfl (fun ls hl => ?_)
                  refine lv_iinc (v := nI (k39 + 1)) (lv' := [(4, .int (nI (k39 + 1))), (3, .int 0), (6, .int ((fX7_looks sn tu an an (nI k39) 0).2.2)), (5, .int ((fX7_looks sn tu an an (nI k39) 0).2.1)), (0, .ref h), (1, .int (nI an)), (2, .int (nI bn))]) hx hb dX7_pair_112 hl (k := 6) rfl (nI_1 _) (by decide) rfl (fun ls hl => ?_)
                  refine lv_goto (tgt := 39) hx hb dX7_pair_115 (by decide) ?_
                  exact ih39 (k39 + 1) 0 ((fX7_looks sn tu bn bn (nI k39) 0).2.1) ((fX7_looks sn tu bn bn (nI k39) 0).2.2) H locs ls (by omega) (by omega) hP hD hS (lv_sub hl [4, 5, 6, 1, 0] rfl) hF
                · rw [if_pos c93] at hF
                  refine lv_iload hx hb dX7_pair_96 (lv_at hl 0 rfl) ?_
                  refine lv_aload_n hx hb dX7_pair_98 rfl (lv_at hl 2 rfl) ?_
                  refine va_get (D := D) (ci := 5) (v := .int ((fX7_looks sn tu bn bn (nI k39) 0).2.2)) (C := RX7) (T := TX7) (N := 16) hx hb hts hinX7 hown hK.1 hP 0 rfl rfl 11 (by decide) hf49 (fun _ h9 => h9) rfl dX7_pair_99 ?_
                  refine lv_iadd hx hb dX7_pair_102 ?_
                  refine lv_if_ne (tgt := 110) hx hb dX7_pair_103 (by decide) (fun c103 => ?_) (fun c103 => ?_)
                  · rw [if_neg c103] at hF
                    refine lv_iconst (v := 0) hx hb dX7_pair_110 (by decide) ?_
                    refine lv_istore_n (lv' := [(3, .int 0), (6, .int ((fX7_looks sn tu an an (nI k39) 0).2.2)), (5, .int ((fX7_looks sn tu an an (nI k39) 0).2.1)), (0, .ref h), (1, .int (nI an)), (2, .int (nI bn)), (4, .int (nI k39))]) hx hb dX7_pair_111 rfl hl (by decide) rfl (fun ls hl => ?_)
                    refine lv_iinc (v := nI (k39 + 1)) (lv' := [(4, .int (nI (k39 + 1))), (3, .int 0), (6, .int ((fX7_looks sn tu an an (nI k39) 0).2.2)), (5, .int ((fX7_looks sn tu an an (nI k39) 0).2.1)), (0, .ref h), (1, .int (nI an)), (2, .int (nI bn))]) hx hb dX7_pair_112 hl (k := 6) rfl (nI_1 _) (by decide) rfl (fun ls hl => ?_)
                    refine lv_goto (tgt := 39) hx hb dX7_pair_115 (by decide) ?_
                    exact ih39 (k39 + 1) 0 ((fX7_looks sn tu bn bn (nI k39) 0).2.1) ((fX7_looks sn tu bn bn (nI k39) 0).2.2) H locs ls (by omega) (by omega) hP hD hS (lv_sub hl [4, 5, 6, 1, 0] rfl) hF
                  · rw [if_pos c103] at hF
                    refine lv_iconst (v := 1) hx hb dX7_pair_106 (by decide) ?_
                    refine lv_goto (tgt := 111) hx hb dX7_pair_107 (by decide) ?_
                    refine lv_istore_n (lv' := [(3, .int 1), (6, .int ((fX7_looks sn tu an an (nI k39) 0).2.2)), (5, .int ((fX7_looks sn tu an an (nI k39) 0).2.1)), (0, .ref h), (1, .int (nI an)), (2, .int (nI bn)), (4, .int (nI k39))]) hx hb dX7_pair_111 rfl hl (by decide) rfl (fun ls hl => ?_)
                    refine lv_iinc (v := nI (k39 + 1)) (lv' := [(4, .int (nI (k39 + 1))), (3, .int 1), (6, .int ((fX7_looks sn tu an an (nI k39) 0).2.2)), (5, .int ((fX7_looks sn tu an an (nI k39) 0).2.1)), (0, .ref h), (1, .int (nI an)), (2, .int (nI bn))]) hx hb dX7_pair_112 hl (k := 6) rfl (nI_1 _) (by decide) rfl (fun ls hl => ?_)
                    refine lv_goto (tgt := 39) hx hb dX7_pair_115 (by decide) ?_
                    exact ih39 (k39 + 1) 1 ((fX7_looks sn tu bn bn (nI k39) 0).2.1) ((fX7_looks sn tu bn bn (nI k39) 0).2.2) H locs ls (by omega) (by omega) hP hD hS (lv_sub hl [4, 5, 6, 1, 0] rfl) hF
        exact lp39 ((sn an) - 1) 1 1 re ot s.heap _ ls rfl (by omega) hP hD hS (lv_sub hl [2, 3, 4, 1, 0] rfl) hF
      · rw [if_neg c29] at hF
        refine lv_iconst (v := 0) hx hb dX7_pair_32 (by decide) ?_
        subst hF
        subst hQ
        exact W.iret (v := 0) hx hb hr (fun u9 ht hW => ⟨⟨_, (), rfl, rfl, by rw [← ht] at hP; exact hP⟩, hS.F ht⟩) hS.2.2 dX7_pair_33
    · rw [if_pos c11] at hF
      refine lv_bipush (v := (-101)) hx hb dX7_pair_14 (by decide) ?_
      subst hF
      subst hQ
      exact W.iret (v := (-101)) hx hb hr (fun u9 ht hW => ⟨⟨_, (), rfl, rfl, by rw [← ht] at hP; exact hP⟩, hS.F ht⟩) hS.2.2 dX7_pair_16
def F_X7_digest_151 (rw : Nat → Int32) (bs : Nat) : Nat → Nat → Int64 → (Int64 × Int64)
  | 0, k151, hh => (fX7_mix hh ((nI bs).toInt64), fX7_mix hh ((nI bs).toInt64))
  | r151 + 1, k151, hh => F_X7_digest_151 rw bs r151 (k151 + 1) (fX7_mix hh ((rw k151).toInt64))
def F_X7_digest_113 (per : Nat → Nat) (rea : Nat → Int32) (wn : Nat) (rw : Nat → Int32) (bs : Nat) : Nat → Nat → Int64 → (Int64 × Int64)
  | 0, k113, hh => F_X7_digest_151 rw bs  (wn - 0) 0 hh
  | r113 + 1, k113, hh => F_X7_digest_113 per rea wn rw bs r113 (k113 + 1) (fX7_mix (fX7_mix hh ((nI (per k113)).toInt64)) ((rea k113).toInt64))
def F_X7_digest_77 (we : Nat → Int32) (rn : Nat) (per : Nat → Nat) (rea : Nat → Int32) (wn : Nat) (rw : Nat → Int32) (bs : Nat) : Nat → Nat → Int64 → (Int64 × Int64)
  | 0, k77, hh => F_X7_digest_113 per rea wn rw bs  (rn - 0) 0 (fX7_mix hh ((nI rn).toInt64))
  | r77 + 1, k77, hh => F_X7_digest_77 we rn per rea wn rw bs r77 (k77 + 1) (fX7_mix hh ((we k77).toInt64))
def F_X7_digest_28 (tu : Nat → Int32) (k9 : Nat) (K9 : (Int64) → (Int64 × Int64)) : Nat → Nat → Int64 → (Int64 × Int64)
  | 0, k28, hh => K9 hh
  | r28 + 1, k28, hh => F_X7_digest_28 tu k9 K9 r28 (k28 + 1) (fX7_mix hh ((tu (16 * k9 + k28)).toInt64))
def F_X7_digest_9 (sn : Nat → Nat) (tu : Nat → Int32) (fn : Nat) (we : Nat → Int32) (rn : Nat) (per : Nat → Nat) (rea : Nat → Int32) (wn : Nat) (rw : Nat → Int32) (bs : Nat) : Nat → Nat → Int64 → (Int64 × Int64)
  | 0, k9, hh => F_X7_digest_77 we rn per rea wn rw bs  (fn - 0) 0 (fX7_mix hh ((nI fn).toInt64))
  | r9 + 1, k9, hh => F_X7_digest_28 tu k9 (fun z28_0 => F_X7_digest_9 sn tu fn we rn per rea wn rw bs r9 (k9 + 1) z28_0) ((sn k9) - 0) 0 (fX7_mix hh ((nI (sn k9)).toInt64))
def fX7_digest (sn : Nat → Nat) (tu : Nat → Int32) (fn : Nat) (we : Nat → Int32) (rn : Nat) (per : Nat → Nat) (rea : Nat → Int32) (wn : Nat) (rw : Nat → Int32) (bs : Nat) : Int64 × Int64 := F_X7_digest_9 sn tu fn we rn per rea wn rw bs (6 - 0) 0 181
abbrev rmX7_digest : Room := { frames := 1, cells := 0, slots := 0, locals := 22 }
set_option maxHeartbeats 4000000 in
set_option maxRecDepth 100000 in
theorem c_X7_digest (l : Launch) (D : va_G) (cI : ClassId) (sz : Nat) (h : Nat) (a0 : Nat) (a1 : Nat) (a3 : Nat) (a5 : Nat) (a6 : Nat) (a8 : Nat) (a12 : Nat) (sn : Nat → Nat) (tu : Nat → Int32) (fn : Nat) (we : Nat → Int32) (rn : Nat) (per : Nat → Nat) (rea : Nat → Int32) (wn : Nat) (rw : Nat → Int32) (bs : Nat) (re : Int32) (ot : Int32) (cp : Nat → Int32) (ab : Int64) (be : Int64) (hh : Int64) (hsn : ∀ c, c < 6 → 1 ≤ sn c ∧ sn c ≤ 16) (hfn : 1 ≤ fn ∧ fn ≤ 24) (hrn : 1 ≤ rn ∧ rn ≤ 4) (hwn : wn ≤ 64) : Met l yX7_digest wsX7_digest rmX7_digest (va_Pc [.ref h] (wrP D [(cI, .int)] [(h, .inr (5, [.ref a0, .ref a1, .int (nI fn), .ref a3, .int (nI rn), .ref a5, .ref a6, .int (nI wn), .ref a8, .int (nI bs), .int re, .int ot, .ref a12, .long ab, .long be, .long hh])), (a0, .inl (cI, 6, .inl (fun i => nI (sn i)))), (a1, .inl (cI, 96, .inl tu)), (a3, .inl (cI, 24, .inl we)), (a5, .inl (cI, 4, .inl (fun i => nI (per i)))), (a6, .inl (cI, 4, .inl rea)), (a8, .inl (cI, 64, .inl rw)), (a12, .inl (cI, 16, .inl cp))] sz)) (va_Ql (fun r9 (_ : Unit) => r9 = (fX7_digest sn tu fn we rn per rea wn rw bs).1) (fun _ u9 => va_P D vwCl [(h, .inr (5, [.ref a0, .ref a1, .int (nI fn), .ref a3, .int (nI rn), .ref a5, .ref a6, .int (nI wn), .ref a8, .int (nI bs), .int re, .int ot, .ref a12, .long ab, .long be, .long ((fX7_digest sn tu fn we rn per rea wn rw bs).2)])), (a0, .inl (cI, 6, .inl (fun i => nI (sn i)))), (a1, .inl (cI, 96, .inl tu)), (a3, .inl (cI, 24, .inl we)), (a5, .inl (cI, 4, .inl (fun i => nI (per i)))), (a6, .inl (cI, 4, .inl rea)), (a8, .inl (cI, 64, .inl rw)), (a12, .inl (cI, 16, .inl cp))] u9.heap) (va_A [(h, .inr (5, [.ref a0, .ref a1, .int (nI fn), .ref a3, .int (nI rn), .ref a5, .ref a6, .int (nI wn), .ref a8, .int (nI bs), .int re, .int ot, .ref a12, .long ab, .long be, .long hh])), (a0, .inl (cI, 6, .inl (fun i => nI (sn i)))), (a1, .inl (cI, 96, .inl tu)), (a3, .inl (cI, 24, .inl we)), (a5, .inl (cI, 4, .inl (fun i => nI (per i)))), (a6, .inl (cI, 4, .inl rea)), (a8, .inl (cI, 64, .inl rw)), (a12, .inl (cI, 16, .inl cp))] sz)) 0 0 (va_A [(h, .inr (5, [.ref a0, .ref a1, .int (nI fn), .ref a3, .int (nI rn), .ref a5, .ref a6, .int (nI wn), .ref a8, .int (nI bs), .int re, .int ot, .ref a12, .long ab, .long be, .long hh])), (a0, .inl (cI, 6, .inl (fun i => nI (sn i)))), (a1, .inl (cI, 96, .inl tu)), (a3, .inl (cI, 24, .inl we)), (a5, .inl (cI, 4, .inl (fun i => nI (per i)))), (a6, .inl (cI, 4, .inl rea)), (a8, .inl (cI, 64, .inl rw)), (a12, .inl (cI, 16, .inl cp))] sz) := by
  generalize hF : fX7_digest sn tu fn we rn per rea wn rw bs = T
  refine Met.ofW (cc := cX7_digest) (maxL := 3) (ret := (some .long)) (by decide) rfl ?_
  intro p e s m args below meth c s₁ B hml hv
  obtain ⟨rfl, hsz, hP, hK, hD0⟩ := hv
  have hx := B.exec
  have hb := B.bytes
  have hr := B.returns
  have hts := atoms_spec (ws := wsX7_digest) B.pre
  have hown : s.vm.findClass RX7 = some m.cls := findClass_of_methodNamed B.named
  have hlocks := B.notSynchronized
  have hinX7 : ∀ w ∈ u_ws RX7 TX7 16, w ∈ wsX7_digest := by decide +kernel
  have hcst132 := hts (.constantLong RX7 132 181) (by decide +kernel)
  have hf129 := hts (.fieldLink RX7 129 "PulseSignsModel" "h" "J") (by decide +kernel)
  have hf16 := hts (.fieldLink RX7 16 "PulseSignsModel" "filterSize" "I") (by decide +kernel)
  have hf23 := hts (.fieldLink RX7 23 "PulseSignsModel" "restMany" "I") (by decide +kernel)
  have hf97 := hts (.fieldLink RX7 97 "PulseSignsModel" "rowSize" "I") (by decide +kernel)
  have hf67 := hts (.fieldLink RX7 67 "PulseSignsModel" "bests" "I") (by decide +kernel)
  have hf32 := hts (.fieldLink RX7 32 "PulseSignsModel" "row" "[I") (by decide +kernel)
  have hf26 := hts (.fieldLink RX7 26 "PulseSignsModel" "restOf" "[I") (by decide +kernel)
  have hf29 := hts (.fieldLink RX7 29 "PulseSignsModel" "readOf" "[I") (by decide +kernel)
  have hf20 := hts (.fieldLink RX7 20 "PulseSignsModel" "weights" "[I") (by decide +kernel)
  have hf7 := hts (.fieldLink RX7 7 "PulseSignsModel" "sizes" "[I") (by decide +kernel)
  have hf13 := hts (.fieldLink RX7 13 "PulseSignsModel" "turns" "[I") (by decide +kernel)
  subst hsz
  have hD := hD0.self (sz := s.heap.size)
  generalize hAe : va_A [(h, .inr (5, [.ref a0, .ref a1, .int (nI fn), .ref a3, .int (nI rn), .ref a5, .ref a6, .int (nI wn), .ref a8, .int (nI bs), .int re, .int ot, .ref a12, .long ab, .long be, .long hh])), (a0, .inl (cI, 6, .inl (fun i => nI (sn i)))), (a1, .inl (cI, 96, .inl tu)), (a3, .inl (cI, 24, .inl we)), (a5, .inl (cI, 4, .inl (fun i => nI (per i)))), (a6, .inl (cI, 4, .inl rea)), (a8, .inl (cI, 64, .inl rw)), (a12, .inl (cI, 16, .inl cp))] s.heap.size = A at hD ⊢
  have hA : ∀ q : Nat, s.heap.size ≤ q → A q := fun q h => by rw [← hAe]; exact Or.inr h
  have hS : va_S A s.heap s.heap [] := va_S.rf
  have hP : va_P D vwCl [(h, .inr (5, [.ref a0, .ref a1, .int (nI fn), .ref a3, .int (nI rn), .ref a5, .ref a6, .int (nI wn), .ref a8, .int (nI bs), .int re, .int ot, .ref a12, .long ab, .long be, .long hh])), (a0, .inl (cI, 6, .inl (fun i => nI (sn i)))), (a1, .inl (cI, 96, .inl tu)), (a3, .inl (cI, 24, .inl we)), (a5, .inl (cI, 4, .inl (fun i => nI (per i)))), (a6, .inl (cI, 4, .inl rea)), (a8, .inl (cI, 64, .inl rw)), (a12, .inl (cI, 16, .inl cp))] s.heap := hP
  have hl := lv_entry ([.ref h]) (n := 3) (Nat.le_of_ble_eq_true rfl)
  rw [lg_entry_eq]
  generalize (lg_sl ([.ref h]) ++ List.replicate (3 - (lg_sl ([.ref h])).length) Slot.unset).toArray = ls at hl ⊢
  refine w_Q (fun Q hQ => ?_)
  have hl : lv_has ls 3 [(0, .ref h)] := hl
  rw [fX7_digest] at hF
  refine lv_aload_n hx hb dX7_digest_0 rfl (lv_at hl 0 rfl) ?_
  refine lv_ldc2 (v := 181) hx hb hown hcst132 dX7_digest_1 ?_
  refine va_put (D := D) (ci := 5) (v := .long 181) (ty := .long) (C := RX7) (T := TX7) (N := 16) hx hb hts hinX7 tyX7 tyX7_ok nmX7 hown hK.1 hP hD hS 0 rfl rfl 15 (by decide) hf129 (fun _ h9 => h9) rfl (by decide +kernel) rfl rfl (Nat.le_of_ble_eq_true rfl) dX7_digest_4 (fun H locs hP hD hS => ?_)
  have hP : va_P D vwCl [(h, .inr (5, [.ref a0, .ref a1, .int (nI fn), .ref a3, .int (nI rn), .ref a5, .ref a6, .int (nI wn), .ref a8, .int (nI bs), .int re, .int ot, .ref a12, .long ab, .long be, .long 181])), (a0, .inl (cI, 6, .inl (fun i => nI (sn i)))), (a1, .inl (cI, 96, .inl tu)), (a3, .inl (cI, 24, .inl we)), (a5, .inl (cI, 4, .inl (fun i => nI (per i)))), (a6, .inl (cI, 4, .inl rea)), (a8, .inl (cI, 64, .inl rw)), (a12, .inl (cI, 16, .inl cp))] H := hP
  have hD : va_D A [(h, .inr (5, [.ref a0, .ref a1, .int (nI fn), .ref a3, .int (nI rn), .ref a5, .ref a6, .int (nI wn), .ref a8, .int (nI bs), .int re, .int ot, .ref a12, .long ab, .long be, .long 181])), (a0, .inl (cI, 6, .inl (fun i => nI (sn i)))), (a1, .inl (cI, 96, .inl tu)), (a3, .inl (cI, 24, .inl we)), (a5, .inl (cI, 4, .inl (fun i => nI (per i)))), (a6, .inl (cI, 4, .inl rea)), (a8, .inl (cI, 64, .inl rw)), (a12, .inl (cI, 16, .inl cp))] := hD
  refine lv_iconst (v := 0) hx hb dX7_digest_7 (by decide) ?_
  refine lv_istore_n (lv' := [(1, .int 0), (0, .ref h)]) hx hb dX7_digest_8 rfl hl (by decide) rfl (fun ls hl => ?_)
  have lp9 : ∀ (r9 k9 : Nat) (hh : Int64) (H : Heap) (locs : List Loc) (ls : Array Slot), r9 = 6 - k9 → k9 ≤ 6 + 1 → va_P D vwCl [(h, .inr (5, [.ref a0, .ref a1, .int (nI fn), .ref a3, .int (nI rn), .ref a5, .ref a6, .int (nI wn), .ref a8, .int (nI bs), .int re, .int ot, .ref a12, .long ab, .long be, .long hh])), (a0, .inl (cI, 6, .inl (fun i => nI (sn i)))), (a1, .inl (cI, 96, .inl tu)), (a3, .inl (cI, 24, .inl we)), (a5, .inl (cI, 4, .inl (fun i => nI (per i)))), (a6, .inl (cI, 4, .inl rea)), (a8, .inl (cI, 64, .inl rw)), (a12, .inl (cI, 16, .inl cp))] H → va_D A [(h, .inr (5, [.ref a0, .ref a1, .int (nI fn), .ref a3, .int (nI rn), .ref a5, .ref a6, .int (nI wn), .ref a8, .int (nI bs), .int re, .int ot, .ref a12, .long ab, .long be, .long hh])), (a0, .inl (cI, 6, .inl (fun i => nI (sn i)))), (a1, .inl (cI, 96, .inl tu)), (a3, .inl (cI, 24, .inl we)), (a5, .inl (cI, 4, .inl (fun i => nI (per i)))), (a6, .inl (cI, 4, .inl rea)), (a8, .inl (cI, 64, .inl rw)), (a12, .inl (cI, 16, .inl cp))] → va_S A s.heap H locs → lv_has ls 3 [(0, .ref h), (1, .int (nI k9))] → F_X7_digest_9 sn tu fn we rn per rea wn rw bs r9 k9 hh = T → W p l e (headSpec wsX7_digest rmX7_digest).room s m ([.ref h] : List Value).toArray below meth c H locs 0 0 Q (F0 m 9 ls []) := by
    intro r9
    induction r9 with
    | zero =>
      intro k9 hh H locs ls hi9_0 hi9_1 hP hD hS hl hF
      rw [F_X7_digest_9] at hF
      refine lv_iload_n hx hb dX7_digest_9 rfl (lv_at hl 1 rfl) ?_
      refine lv_bipush (v := 6) hx hb dX7_digest_10 (by decide) ?_
      refine lv_icmp_ge (tgt := 66) hx hb dX7_digest_12 (by decide) (fun c12 => ?_) (fun c12 => ?_)
      · skip
        refine lv_aload_n hx hb dX7_digest_66 rfl (lv_at hl 0 rfl) ?_
        refine lv_aload_n hx hb dX7_digest_67 rfl (lv_at hl 0 rfl) ?_
        refine va_get (D := D) (ci := 5) (v := .int (nI fn)) (C := RX7) (T := TX7) (N := 16) hx hb hts hinX7 hown hK.1 hP 0 rfl rfl 2 (by decide) hf16 (fun _ h9 => h9) rfl dX7_digest_68 ?_
        refine lv_i2l hx hb dX7_digest_71 rfl ?_
        refine cx_v (va_runV (As := [.long ((nI fn).toInt64)]) (rest := []) ⟨hx, hb, hml, hown, hts⟩ (c_X7_mix l D cI H.size h a0 a1 a3 a5 a6 a8 a12 sn tu fn we rn per rea wn rw bs re ot cp ab be hh ((nI fn).toInt64) ) (cwV 1 hts gX7_digest_X7_mix rfl rfl rfl (by decide +kernel) ⟨(Nat.le_of_ble_eq_true rfl), (Nat.le_of_ble_eq_true rfl)⟩) (wr_preV hP hD hK rfl (q0 := 0) rfl) rfl rfl hl.1 rfl (lv_room (Nat.le_of_ble_eq_true rfl)) dX7_digest_72 ⟨Nat.zero_le _, Nat.zero_le _⟩) hP hD hS hA [0, 1, 2, 3, 4, 5, 6, 7] rfl [h, a0, a1, a3, a5, a6, a8, a12] rfl rfl (fun H locs hP hD hS => ?_)
        have hP : va_P D vwCl [(h, .inr (5, [.ref a0, .ref a1, .int (nI fn), .ref a3, .int (nI rn), .ref a5, .ref a6, .int (nI wn), .ref a8, .int (nI bs), .int re, .int ot, .ref a12, .long ab, .long be, .long (fX7_mix hh ((nI fn).toInt64))])), (a0, .inl (cI, 6, .inl (fun i => nI (sn i)))), (a1, .inl (cI, 96, .inl tu)), (a3, .inl (cI, 24, .inl we)), (a5, .inl (cI, 4, .inl (fun i => nI (per i)))), (a6, .inl (cI, 4, .inl rea)), (a8, .inl (cI, 64, .inl rw)), (a12, .inl (cI, 16, .inl cp))] H := hP
        have hD : va_D A [(h, .inr (5, [.ref a0, .ref a1, .int (nI fn), .ref a3, .int (nI rn), .ref a5, .ref a6, .int (nI wn), .ref a8, .int (nI bs), .int re, .int ot, .ref a12, .long ab, .long be, .long (fX7_mix hh ((nI fn).toInt64))])), (a0, .inl (cI, 6, .inl (fun i => nI (sn i)))), (a1, .inl (cI, 96, .inl tu)), (a3, .inl (cI, 24, .inl we)), (a5, .inl (cI, 4, .inl (fun i => nI (per i)))), (a6, .inl (cI, 4, .inl rea)), (a8, .inl (cI, 64, .inl rw)), (a12, .inl (cI, 16, .inl cp))] := hD
        refine lv_iconst (v := 0) hx hb dX7_digest_75 (by decide) ?_
        refine lv_istore_n (lv' := [(1, .int 0), (0, .ref h)]) hx hb dX7_digest_76 rfl hl (by decide) rfl (fun ls hl => ?_)
        have lp77 : ∀ (r77 k77 : Nat) (hh : Int64) (H : Heap) (locs : List Loc) (ls : Array Slot), r77 = fn - k77 → k77 ≤ fn + 1 → va_P D vwCl [(h, .inr (5, [.ref a0, .ref a1, .int (nI fn), .ref a3, .int (nI rn), .ref a5, .ref a6, .int (nI wn), .ref a8, .int (nI bs), .int re, .int ot, .ref a12, .long ab, .long be, .long hh])), (a0, .inl (cI, 6, .inl (fun i => nI (sn i)))), (a1, .inl (cI, 96, .inl tu)), (a3, .inl (cI, 24, .inl we)), (a5, .inl (cI, 4, .inl (fun i => nI (per i)))), (a6, .inl (cI, 4, .inl rea)), (a8, .inl (cI, 64, .inl rw)), (a12, .inl (cI, 16, .inl cp))] H → va_D A [(h, .inr (5, [.ref a0, .ref a1, .int (nI fn), .ref a3, .int (nI rn), .ref a5, .ref a6, .int (nI wn), .ref a8, .int (nI bs), .int re, .int ot, .ref a12, .long ab, .long be, .long hh])), (a0, .inl (cI, 6, .inl (fun i => nI (sn i)))), (a1, .inl (cI, 96, .inl tu)), (a3, .inl (cI, 24, .inl we)), (a5, .inl (cI, 4, .inl (fun i => nI (per i)))), (a6, .inl (cI, 4, .inl rea)), (a8, .inl (cI, 64, .inl rw)), (a12, .inl (cI, 16, .inl cp))] → va_S A s.heap H locs → lv_has ls 3 [(0, .ref h), (1, .int (nI k77))] → F_X7_digest_77 we rn per rea wn rw bs  r77 k77 hh = T → W p l e (headSpec wsX7_digest rmX7_digest).room s m ([.ref h] : List Value).toArray below meth c H locs 0 0 Q (F0 m 77 ls []) := by
          intro r77
          induction r77 with
          | zero =>
            intro k77 hh H locs ls hi77_0 hi77_1 hP hD hS hl hF
            rw [F_X7_digest_77] at hF
            refine lv_iload_n hx hb dX7_digest_77 rfl (lv_at hl 1 rfl) ?_
            refine lv_aload_n hx hb dX7_digest_78 rfl (lv_at hl 0 rfl) ?_
            refine va_get (D := D) (ci := 5) (v := .int (nI fn)) (C := RX7) (T := TX7) (N := 16) hx hb hts hinX7 hown hK.1 hP 0 rfl rfl 2 (by decide) hf16 (fun _ h9 => h9) rfl dX7_digest_79 ?_
            refine lv_icmp_ge (tgt := 102) hx hb dX7_digest_82 (by decide) (fun c82 => ?_) (fun c82 => ?_)
            · skip
              refine lv_aload_n hx hb dX7_digest_102 rfl (lv_at hl 0 rfl) ?_
              refine lv_aload_n hx hb dX7_digest_103 rfl (lv_at hl 0 rfl) ?_
              refine va_get (D := D) (ci := 5) (v := .int (nI rn)) (C := RX7) (T := TX7) (N := 16) hx hb hts hinX7 hown hK.1 hP 0 rfl rfl 4 (by decide) hf23 (fun _ h9 => h9) rfl dX7_digest_104 ?_
              refine lv_i2l hx hb dX7_digest_107 rfl ?_
              refine cx_v (va_runV (As := [.long ((nI rn).toInt64)]) (rest := []) ⟨hx, hb, hml, hown, hts⟩ (c_X7_mix l D cI H.size h a0 a1 a3 a5 a6 a8 a12 sn tu fn we rn per rea wn rw bs re ot cp ab be hh ((nI rn).toInt64) ) (cwV 1 hts gX7_digest_X7_mix rfl rfl rfl (by decide +kernel) ⟨(Nat.le_of_ble_eq_true rfl), (Nat.le_of_ble_eq_true rfl)⟩) (wr_preV hP hD hK rfl (q0 := 0) rfl) rfl rfl hl.1 rfl (lv_room (Nat.le_of_ble_eq_true rfl)) dX7_digest_108 ⟨Nat.zero_le _, Nat.zero_le _⟩) hP hD hS hA [0, 1, 2, 3, 4, 5, 6, 7] rfl [h, a0, a1, a3, a5, a6, a8, a12] rfl rfl (fun H locs hP hD hS => ?_)
              have hP : va_P D vwCl [(h, .inr (5, [.ref a0, .ref a1, .int (nI fn), .ref a3, .int (nI rn), .ref a5, .ref a6, .int (nI wn), .ref a8, .int (nI bs), .int re, .int ot, .ref a12, .long ab, .long be, .long (fX7_mix hh ((nI rn).toInt64))])), (a0, .inl (cI, 6, .inl (fun i => nI (sn i)))), (a1, .inl (cI, 96, .inl tu)), (a3, .inl (cI, 24, .inl we)), (a5, .inl (cI, 4, .inl (fun i => nI (per i)))), (a6, .inl (cI, 4, .inl rea)), (a8, .inl (cI, 64, .inl rw)), (a12, .inl (cI, 16, .inl cp))] H := hP
              have hD : va_D A [(h, .inr (5, [.ref a0, .ref a1, .int (nI fn), .ref a3, .int (nI rn), .ref a5, .ref a6, .int (nI wn), .ref a8, .int (nI bs), .int re, .int ot, .ref a12, .long ab, .long be, .long (fX7_mix hh ((nI rn).toInt64))])), (a0, .inl (cI, 6, .inl (fun i => nI (sn i)))), (a1, .inl (cI, 96, .inl tu)), (a3, .inl (cI, 24, .inl we)), (a5, .inl (cI, 4, .inl (fun i => nI (per i)))), (a6, .inl (cI, 4, .inl rea)), (a8, .inl (cI, 64, .inl rw)), (a12, .inl (cI, 16, .inl cp))] := hD
              refine lv_iconst (v := 0) hx hb dX7_digest_111 (by decide) ?_
              refine lv_istore_n (lv' := [(1, .int 0), (0, .ref h)]) hx hb dX7_digest_112 rfl hl (by decide) rfl (fun ls hl => ?_)
              have lp113 : ∀ (r113 k113 : Nat) (hh : Int64) (H : Heap) (locs : List Loc) (ls : Array Slot), r113 = rn - k113 → k113 ≤ rn + 1 → va_P D vwCl [(h, .inr (5, [.ref a0, .ref a1, .int (nI fn), .ref a3, .int (nI rn), .ref a5, .ref a6, .int (nI wn), .ref a8, .int (nI bs), .int re, .int ot, .ref a12, .long ab, .long be, .long hh])), (a0, .inl (cI, 6, .inl (fun i => nI (sn i)))), (a1, .inl (cI, 96, .inl tu)), (a3, .inl (cI, 24, .inl we)), (a5, .inl (cI, 4, .inl (fun i => nI (per i)))), (a6, .inl (cI, 4, .inl rea)), (a8, .inl (cI, 64, .inl rw)), (a12, .inl (cI, 16, .inl cp))] H → va_D A [(h, .inr (5, [.ref a0, .ref a1, .int (nI fn), .ref a3, .int (nI rn), .ref a5, .ref a6, .int (nI wn), .ref a8, .int (nI bs), .int re, .int ot, .ref a12, .long ab, .long be, .long hh])), (a0, .inl (cI, 6, .inl (fun i => nI (sn i)))), (a1, .inl (cI, 96, .inl tu)), (a3, .inl (cI, 24, .inl we)), (a5, .inl (cI, 4, .inl (fun i => nI (per i)))), (a6, .inl (cI, 4, .inl rea)), (a8, .inl (cI, 64, .inl rw)), (a12, .inl (cI, 16, .inl cp))] → va_S A s.heap H locs → lv_has ls 3 [(0, .ref h), (1, .int (nI k113))] → F_X7_digest_113 per rea wn rw bs  r113 k113 hh = T → W p l e (headSpec wsX7_digest rmX7_digest).room s m ([.ref h] : List Value).toArray below meth c H locs 0 0 Q (F0 m 113 ls []) := by
                intro r113
                induction r113 with
                | zero =>
                  intro k113 hh H locs ls hi113_0 hi113_1 hP hD hS hl hF
                  rw [F_X7_digest_113] at hF
                  refine lv_iload_n hx hb dX7_digest_113 rfl (lv_at hl 1 rfl) ?_
                  refine lv_aload_n hx hb dX7_digest_114 rfl (lv_at hl 0 rfl) ?_
                  refine va_get (D := D) (ci := 5) (v := .int (nI rn)) (C := RX7) (T := TX7) (N := 16) hx hb hts hinX7 hown hK.1 hP 0 rfl rfl 4 (by decide) hf23 (fun _ h9 => h9) rfl dX7_digest_115 ?_
                  refine lv_icmp_ge (tgt := 149) hx hb dX7_digest_118 (by decide) (fun c118 => ?_) (fun c118 => ?_)
                  · skip
                    refine lv_iconst (v := 0) hx hb dX7_digest_149 (by decide) ?_
                    refine lv_istore_n (lv' := [(1, .int 0), (0, .ref h)]) hx hb dX7_digest_150 rfl hl (by decide) rfl (fun ls hl => ?_)
                    have lp151 : ∀ (r151 k151 : Nat) (hh : Int64) (H : Heap) (locs : List Loc) (ls : Array Slot), r151 = wn - k151 → k151 ≤ wn + 1 → va_P D vwCl [(h, .inr (5, [.ref a0, .ref a1, .int (nI fn), .ref a3, .int (nI rn), .ref a5, .ref a6, .int (nI wn), .ref a8, .int (nI bs), .int re, .int ot, .ref a12, .long ab, .long be, .long hh])), (a0, .inl (cI, 6, .inl (fun i => nI (sn i)))), (a1, .inl (cI, 96, .inl tu)), (a3, .inl (cI, 24, .inl we)), (a5, .inl (cI, 4, .inl (fun i => nI (per i)))), (a6, .inl (cI, 4, .inl rea)), (a8, .inl (cI, 64, .inl rw)), (a12, .inl (cI, 16, .inl cp))] H → va_D A [(h, .inr (5, [.ref a0, .ref a1, .int (nI fn), .ref a3, .int (nI rn), .ref a5, .ref a6, .int (nI wn), .ref a8, .int (nI bs), .int re, .int ot, .ref a12, .long ab, .long be, .long hh])), (a0, .inl (cI, 6, .inl (fun i => nI (sn i)))), (a1, .inl (cI, 96, .inl tu)), (a3, .inl (cI, 24, .inl we)), (a5, .inl (cI, 4, .inl (fun i => nI (per i)))), (a6, .inl (cI, 4, .inl rea)), (a8, .inl (cI, 64, .inl rw)), (a12, .inl (cI, 16, .inl cp))] → va_S A s.heap H locs → lv_has ls 3 [(0, .ref h), (1, .int (nI k151))] → F_X7_digest_151 rw bs  r151 k151 hh = T → W p l e (headSpec wsX7_digest rmX7_digest).room s m ([.ref h] : List Value).toArray below meth c H locs 0 0 Q (F0 m 151 ls []) := by
                      intro r151
                      induction r151 with
                      | zero =>
                        intro k151 hh H locs ls hi151_0 hi151_1 hP hD hS hl hF
                        rw [F_X7_digest_151] at hF
                        refine lv_iload_n hx hb dX7_digest_151 rfl (lv_at hl 1 rfl) ?_
                        refine lv_aload_n hx hb dX7_digest_152 rfl (lv_at hl 0 rfl) ?_
                        refine va_get (D := D) (ci := 5) (v := .int (nI wn)) (C := RX7) (T := TX7) (N := 16) hx hb hts hinX7 hown hK.1 hP 0 rfl rfl 7 (by decide) hf97 (fun _ h9 => h9) rfl dX7_digest_153 ?_
                        refine lv_icmp_ge (tgt := 176) hx hb dX7_digest_156 (by decide) (fun c156 => ?_) (fun c156 => ?_)
                        · skip
                          refine lv_aload_n hx hb dX7_digest_176 rfl (lv_at hl 0 rfl) ?_
                          refine lv_aload_n hx hb dX7_digest_177 rfl (lv_at hl 0 rfl) ?_
                          refine va_get (D := D) (ci := 5) (v := .int (nI bs)) (C := RX7) (T := TX7) (N := 16) hx hb hts hinX7 hown hK.1 hP 0 rfl rfl 9 (by decide) hf67 (fun _ h9 => h9) rfl dX7_digest_178 ?_
                          refine lv_i2l hx hb dX7_digest_181 rfl ?_
                          refine cx_v (va_runV (As := [.long ((nI bs).toInt64)]) (rest := []) ⟨hx, hb, hml, hown, hts⟩ (c_X7_mix l D cI H.size h a0 a1 a3 a5 a6 a8 a12 sn tu fn we rn per rea wn rw bs re ot cp ab be hh ((nI bs).toInt64) ) (cwV 1 hts gX7_digest_X7_mix rfl rfl rfl (by decide +kernel) ⟨(Nat.le_of_ble_eq_true rfl), (Nat.le_of_ble_eq_true rfl)⟩) (wr_preV hP hD hK rfl (q0 := 0) rfl) rfl rfl hl.1 rfl (lv_room (Nat.le_of_ble_eq_true rfl)) dX7_digest_182 ⟨Nat.zero_le _, Nat.zero_le _⟩) hP hD hS hA [0, 1, 2, 3, 4, 5, 6, 7] rfl [h, a0, a1, a3, a5, a6, a8, a12] rfl rfl (fun H locs hP hD hS => ?_)
                          have hP : va_P D vwCl [(h, .inr (5, [.ref a0, .ref a1, .int (nI fn), .ref a3, .int (nI rn), .ref a5, .ref a6, .int (nI wn), .ref a8, .int (nI bs), .int re, .int ot, .ref a12, .long ab, .long be, .long (fX7_mix hh ((nI bs).toInt64))])), (a0, .inl (cI, 6, .inl (fun i => nI (sn i)))), (a1, .inl (cI, 96, .inl tu)), (a3, .inl (cI, 24, .inl we)), (a5, .inl (cI, 4, .inl (fun i => nI (per i)))), (a6, .inl (cI, 4, .inl rea)), (a8, .inl (cI, 64, .inl rw)), (a12, .inl (cI, 16, .inl cp))] H := hP
                          have hD : va_D A [(h, .inr (5, [.ref a0, .ref a1, .int (nI fn), .ref a3, .int (nI rn), .ref a5, .ref a6, .int (nI wn), .ref a8, .int (nI bs), .int re, .int ot, .ref a12, .long ab, .long be, .long (fX7_mix hh ((nI bs).toInt64))])), (a0, .inl (cI, 6, .inl (fun i => nI (sn i)))), (a1, .inl (cI, 96, .inl tu)), (a3, .inl (cI, 24, .inl we)), (a5, .inl (cI, 4, .inl (fun i => nI (per i)))), (a6, .inl (cI, 4, .inl rea)), (a8, .inl (cI, 64, .inl rw)), (a12, .inl (cI, 16, .inl cp))] := hD
                          refine lv_aload_n hx hb dX7_digest_185 rfl (lv_at hl 0 rfl) ?_
                          refine va_get (D := D) (ci := 5) (v := .long (fX7_mix hh ((nI bs).toInt64))) (C := RX7) (T := TX7) (N := 16) hx hb hts hinX7 hown hK.1 hP 0 rfl rfl 15 (by decide) hf129 (fun _ h9 => h9) rfl dX7_digest_186 ?_
                          subst hF
                          subst hQ
                          exact W.lret (v := fX7_mix hh ((nI bs).toInt64)) hx hb hr (fun u9 ht hW => ⟨⟨_, (), rfl, rfl, by rw [← ht] at hP; exact hP⟩, hS.F ht⟩) hS.2.2 dX7_digest_189
                        · exact False.elim (c156 (nI_le (a := wn) (b := k151) (by omega) (by omega)))
                      | succ r151 ih151 =>
                        intro k151 hh H locs ls hi151_0 hi151_1 hP hD hS hl hF
                        rw [F_X7_digest_151] at hF
                        refine lv_iload_n hx hb dX7_digest_151 rfl (lv_at hl 1 rfl) ?_
                        refine lv_aload_n hx hb dX7_digest_152 rfl (lv_at hl 0 rfl) ?_
                        refine va_get (D := D) (ci := 5) (v := .int (nI wn)) (C := RX7) (T := TX7) (N := 16) hx hb hts hinX7 hown hK.1 hP 0 rfl rfl 7 (by decide) hf97 (fun _ h9 => h9) rfl dX7_digest_153 ?_
                        refine lv_icmp_ge (tgt := 176) hx hb dX7_digest_156 (by decide) (fun c156 => ?_) (fun c156 => ?_)
                        · exact False.elim (nI_ge (a := k151) (b := wn) (by omega) (by omega) c156)
                        · skip
                          refine lv_aload_n hx hb dX7_digest_159 rfl (lv_at hl 0 rfl) ?_
                          refine lv_aload_n hx hb dX7_digest_160 rfl (lv_at hl 0 rfl) ?_
                          refine va_get (D := D) (ci := 5) (v := .ref a8) (C := RX7) (T := TX7) (N := 16) hx hb hts hinX7 hown hK.1 hP 0 rfl rfl 8 (by decide) hf32 (fun _ h9 => h9) rfl dX7_digest_161 ?_
                          refine lv_iload_n hx hb dX7_digest_164 rfl (lv_at hl 1 rfl) ?_
                          refine w_ald hx hb hK hP 6 0 rfl rfl (k151) rfl (by omega) (by omega) dX7_digest_165 ?_
                          refine lv_i2l hx hb dX7_digest_166 rfl ?_
                          refine cx_v (va_runV (As := [.long ((rw k151).toInt64)]) (rest := []) ⟨hx, hb, hml, hown, hts⟩ (c_X7_mix l D cI H.size h a0 a1 a3 a5 a6 a8 a12 sn tu fn we rn per rea wn rw bs re ot cp ab be hh ((rw k151).toInt64) ) (cwV 1 hts gX7_digest_X7_mix rfl rfl rfl (by decide +kernel) ⟨(Nat.le_of_ble_eq_true rfl), (Nat.le_of_ble_eq_true rfl)⟩) (wr_preV hP hD hK rfl (q0 := 0) rfl) rfl rfl hl.1 rfl (lv_room (Nat.le_of_ble_eq_true rfl)) dX7_digest_167 ⟨Nat.zero_le _, Nat.zero_le _⟩) hP hD hS hA [0, 1, 2, 3, 4, 5, 6, 7] rfl [h, a0, a1, a3, a5, a6, a8, a12] rfl rfl (fun H locs hP hD hS => ?_)
                          have hP : va_P D vwCl [(h, .inr (5, [.ref a0, .ref a1, .int (nI fn), .ref a3, .int (nI rn), .ref a5, .ref a6, .int (nI wn), .ref a8, .int (nI bs), .int re, .int ot, .ref a12, .long ab, .long be, .long (fX7_mix hh ((rw k151).toInt64))])), (a0, .inl (cI, 6, .inl (fun i => nI (sn i)))), (a1, .inl (cI, 96, .inl tu)), (a3, .inl (cI, 24, .inl we)), (a5, .inl (cI, 4, .inl (fun i => nI (per i)))), (a6, .inl (cI, 4, .inl rea)), (a8, .inl (cI, 64, .inl rw)), (a12, .inl (cI, 16, .inl cp))] H := hP
                          have hD : va_D A [(h, .inr (5, [.ref a0, .ref a1, .int (nI fn), .ref a3, .int (nI rn), .ref a5, .ref a6, .int (nI wn), .ref a8, .int (nI bs), .int re, .int ot, .ref a12, .long ab, .long be, .long (fX7_mix hh ((rw k151).toInt64))])), (a0, .inl (cI, 6, .inl (fun i => nI (sn i)))), (a1, .inl (cI, 96, .inl tu)), (a3, .inl (cI, 24, .inl we)), (a5, .inl (cI, 4, .inl (fun i => nI (per i)))), (a6, .inl (cI, 4, .inl rea)), (a8, .inl (cI, 64, .inl rw)), (a12, .inl (cI, 16, .inl cp))] := hD
                          refine lv_iinc (v := nI (k151 + 1)) (lv' := [(1, .int (nI (k151 + 1))), (0, .ref h)]) hx hb dX7_digest_170 hl (k := 1) rfl (nI_1 _) (by decide) rfl (fun ls hl => ?_)
                          refine lv_goto (tgt := 151) hx hb dX7_digest_173 (by decide) ?_
                          exact ih151 (k151 + 1) (fX7_mix hh ((rw k151).toInt64)) H locs ls (by omega) (by omega) hP hD hS (lv_sub hl [1, 0] rfl) hF
                    exact lp151 (wn - 0) 0 hh H _ ls rfl (by omega) hP hD hS (lv_sub hl [1, 0] rfl) hF
                  · exact False.elim (c118 (nI_le (a := rn) (b := k113) (by omega) (by omega)))
                | succ r113 ih113 =>
                  intro k113 hh H locs ls hi113_0 hi113_1 hP hD hS hl hF
                  rw [F_X7_digest_113] at hF
                  refine lv_iload_n hx hb dX7_digest_113 rfl (lv_at hl 1 rfl) ?_
                  refine lv_aload_n hx hb dX7_digest_114 rfl (lv_at hl 0 rfl) ?_
                  refine va_get (D := D) (ci := 5) (v := .int (nI rn)) (C := RX7) (T := TX7) (N := 16) hx hb hts hinX7 hown hK.1 hP 0 rfl rfl 4 (by decide) hf23 (fun _ h9 => h9) rfl dX7_digest_115 ?_
                  refine lv_icmp_ge (tgt := 149) hx hb dX7_digest_118 (by decide) (fun c118 => ?_) (fun c118 => ?_)
                  · exact False.elim (nI_ge (a := k113) (b := rn) (by omega) (by omega) c118)
                  · skip
                    refine lv_aload_n hx hb dX7_digest_121 rfl (lv_at hl 0 rfl) ?_
                    refine lv_aload_n hx hb dX7_digest_122 rfl (lv_at hl 0 rfl) ?_
                    refine va_get (D := D) (ci := 5) (v := .ref a5) (C := RX7) (T := TX7) (N := 16) hx hb hts hinX7 hown hK.1 hP 0 rfl rfl 5 (by decide) hf26 (fun _ h9 => h9) rfl dX7_digest_123 ?_
                    refine lv_iload_n hx hb dX7_digest_126 rfl (lv_at hl 1 rfl) ?_
                    refine w_ald hx hb hK hP 4 0 rfl rfl (k113) rfl (by omega) (by omega) dX7_digest_127 ?_
                    refine lv_i2l hx hb dX7_digest_128 rfl ?_
                    refine cx_v (va_runV (As := [.long ((nI (per k113)).toInt64)]) (rest := []) ⟨hx, hb, hml, hown, hts⟩ (c_X7_mix l D cI H.size h a0 a1 a3 a5 a6 a8 a12 sn tu fn we rn per rea wn rw bs re ot cp ab be hh ((nI (per k113)).toInt64) ) (cwV 1 hts gX7_digest_X7_mix rfl rfl rfl (by decide +kernel) ⟨(Nat.le_of_ble_eq_true rfl), (Nat.le_of_ble_eq_true rfl)⟩) (wr_preV hP hD hK rfl (q0 := 0) rfl) rfl rfl hl.1 rfl (lv_room (Nat.le_of_ble_eq_true rfl)) dX7_digest_129 ⟨Nat.zero_le _, Nat.zero_le _⟩) hP hD hS hA [0, 1, 2, 3, 4, 5, 6, 7] rfl [h, a0, a1, a3, a5, a6, a8, a12] rfl rfl (fun H locs hP hD hS => ?_)
                    have hP : va_P D vwCl [(h, .inr (5, [.ref a0, .ref a1, .int (nI fn), .ref a3, .int (nI rn), .ref a5, .ref a6, .int (nI wn), .ref a8, .int (nI bs), .int re, .int ot, .ref a12, .long ab, .long be, .long (fX7_mix hh ((nI (per k113)).toInt64))])), (a0, .inl (cI, 6, .inl (fun i => nI (sn i)))), (a1, .inl (cI, 96, .inl tu)), (a3, .inl (cI, 24, .inl we)), (a5, .inl (cI, 4, .inl (fun i => nI (per i)))), (a6, .inl (cI, 4, .inl rea)), (a8, .inl (cI, 64, .inl rw)), (a12, .inl (cI, 16, .inl cp))] H := hP
                    have hD : va_D A [(h, .inr (5, [.ref a0, .ref a1, .int (nI fn), .ref a3, .int (nI rn), .ref a5, .ref a6, .int (nI wn), .ref a8, .int (nI bs), .int re, .int ot, .ref a12, .long ab, .long be, .long (fX7_mix hh ((nI (per k113)).toInt64))])), (a0, .inl (cI, 6, .inl (fun i => nI (sn i)))), (a1, .inl (cI, 96, .inl tu)), (a3, .inl (cI, 24, .inl we)), (a5, .inl (cI, 4, .inl (fun i => nI (per i)))), (a6, .inl (cI, 4, .inl rea)), (a8, .inl (cI, 64, .inl rw)), (a12, .inl (cI, 16, .inl cp))] := hD
                    refine lv_aload_n hx hb dX7_digest_132 rfl (lv_at hl 0 rfl) ?_
                    refine lv_aload_n hx hb dX7_digest_133 rfl (lv_at hl 0 rfl) ?_
                    refine va_get (D := D) (ci := 5) (v := .ref a6) (C := RX7) (T := TX7) (N := 16) hx hb hts hinX7 hown hK.1 hP 0 rfl rfl 6 (by decide) hf29 (fun _ h9 => h9) rfl dX7_digest_134 ?_
                    refine lv_iload_n hx hb dX7_digest_137 rfl (lv_at hl 1 rfl) ?_
                    refine w_ald hx hb hK hP 5 0 rfl rfl (k113) rfl (by omega) (by omega) dX7_digest_138 ?_
                    refine lv_i2l hx hb dX7_digest_139 rfl ?_
                    refine cx_v (va_runV (As := [.long ((rea k113).toInt64)]) (rest := []) ⟨hx, hb, hml, hown, hts⟩ (c_X7_mix l D cI H.size h a0 a1 a3 a5 a6 a8 a12 sn tu fn we rn per rea wn rw bs re ot cp ab be (fX7_mix hh ((nI (per k113)).toInt64)) ((rea k113).toInt64) ) (cwV 1 hts gX7_digest_X7_mix rfl rfl rfl (by decide +kernel) ⟨(Nat.le_of_ble_eq_true rfl), (Nat.le_of_ble_eq_true rfl)⟩) (wr_preV hP hD hK rfl (q0 := 0) rfl) rfl rfl hl.1 rfl (lv_room (Nat.le_of_ble_eq_true rfl)) dX7_digest_140 ⟨Nat.zero_le _, Nat.zero_le _⟩) hP hD hS hA [0, 1, 2, 3, 4, 5, 6, 7] rfl [h, a0, a1, a3, a5, a6, a8, a12] rfl rfl (fun H locs hP hD hS => ?_)
                    have hP : va_P D vwCl [(h, .inr (5, [.ref a0, .ref a1, .int (nI fn), .ref a3, .int (nI rn), .ref a5, .ref a6, .int (nI wn), .ref a8, .int (nI bs), .int re, .int ot, .ref a12, .long ab, .long be, .long (fX7_mix (fX7_mix hh ((nI (per k113)).toInt64)) ((rea k113).toInt64))])), (a0, .inl (cI, 6, .inl (fun i => nI (sn i)))), (a1, .inl (cI, 96, .inl tu)), (a3, .inl (cI, 24, .inl we)), (a5, .inl (cI, 4, .inl (fun i => nI (per i)))), (a6, .inl (cI, 4, .inl rea)), (a8, .inl (cI, 64, .inl rw)), (a12, .inl (cI, 16, .inl cp))] H := hP
                    have hD : va_D A [(h, .inr (5, [.ref a0, .ref a1, .int (nI fn), .ref a3, .int (nI rn), .ref a5, .ref a6, .int (nI wn), .ref a8, .int (nI bs), .int re, .int ot, .ref a12, .long ab, .long be, .long (fX7_mix (fX7_mix hh ((nI (per k113)).toInt64)) ((rea k113).toInt64))])), (a0, .inl (cI, 6, .inl (fun i => nI (sn i)))), (a1, .inl (cI, 96, .inl tu)), (a3, .inl (cI, 24, .inl we)), (a5, .inl (cI, 4, .inl (fun i => nI (per i)))), (a6, .inl (cI, 4, .inl rea)), (a8, .inl (cI, 64, .inl rw)), (a12, .inl (cI, 16, .inl cp))] := hD
                    refine lv_iinc (v := nI (k113 + 1)) (lv' := [(1, .int (nI (k113 + 1))), (0, .ref h)]) hx hb dX7_digest_143 hl (k := 1) rfl (nI_1 _) (by decide) rfl (fun ls hl => ?_)
                    refine lv_goto (tgt := 113) hx hb dX7_digest_146 (by decide) ?_
                    exact ih113 (k113 + 1) (fX7_mix (fX7_mix hh ((nI (per k113)).toInt64)) ((rea k113).toInt64)) H locs ls (by omega) (by omega) hP hD hS (lv_sub hl [1, 0] rfl) hF
              exact lp113 (rn - 0) 0 (fX7_mix hh ((nI rn).toInt64)) H _ ls rfl (by omega) hP hD hS (lv_sub hl [1, 0] rfl) hF
            · exact False.elim (c82 (nI_le (a := fn) (b := k77) (by omega) (by omega)))
          | succ r77 ih77 =>
            intro k77 hh H locs ls hi77_0 hi77_1 hP hD hS hl hF
            rw [F_X7_digest_77] at hF
            refine lv_iload_n hx hb dX7_digest_77 rfl (lv_at hl 1 rfl) ?_
            refine lv_aload_n hx hb dX7_digest_78 rfl (lv_at hl 0 rfl) ?_
            refine va_get (D := D) (ci := 5) (v := .int (nI fn)) (C := RX7) (T := TX7) (N := 16) hx hb hts hinX7 hown hK.1 hP 0 rfl rfl 2 (by decide) hf16 (fun _ h9 => h9) rfl dX7_digest_79 ?_
            refine lv_icmp_ge (tgt := 102) hx hb dX7_digest_82 (by decide) (fun c82 => ?_) (fun c82 => ?_)
            · exact False.elim (nI_ge (a := k77) (b := fn) (by omega) (by omega) c82)
            · skip
              refine lv_aload_n hx hb dX7_digest_85 rfl (lv_at hl 0 rfl) ?_
              refine lv_aload_n hx hb dX7_digest_86 rfl (lv_at hl 0 rfl) ?_
              refine va_get (D := D) (ci := 5) (v := .ref a3) (C := RX7) (T := TX7) (N := 16) hx hb hts hinX7 hown hK.1 hP 0 rfl rfl 3 (by decide) hf20 (fun _ h9 => h9) rfl dX7_digest_87 ?_
              refine lv_iload_n hx hb dX7_digest_90 rfl (lv_at hl 1 rfl) ?_
              refine w_ald hx hb hK hP 3 0 rfl rfl (k77) rfl (by omega) (by omega) dX7_digest_91 ?_
              refine lv_i2l hx hb dX7_digest_92 rfl ?_
              refine cx_v (va_runV (As := [.long ((we k77).toInt64)]) (rest := []) ⟨hx, hb, hml, hown, hts⟩ (c_X7_mix l D cI H.size h a0 a1 a3 a5 a6 a8 a12 sn tu fn we rn per rea wn rw bs re ot cp ab be hh ((we k77).toInt64) ) (cwV 1 hts gX7_digest_X7_mix rfl rfl rfl (by decide +kernel) ⟨(Nat.le_of_ble_eq_true rfl), (Nat.le_of_ble_eq_true rfl)⟩) (wr_preV hP hD hK rfl (q0 := 0) rfl) rfl rfl hl.1 rfl (lv_room (Nat.le_of_ble_eq_true rfl)) dX7_digest_93 ⟨Nat.zero_le _, Nat.zero_le _⟩) hP hD hS hA [0, 1, 2, 3, 4, 5, 6, 7] rfl [h, a0, a1, a3, a5, a6, a8, a12] rfl rfl (fun H locs hP hD hS => ?_)
              have hP : va_P D vwCl [(h, .inr (5, [.ref a0, .ref a1, .int (nI fn), .ref a3, .int (nI rn), .ref a5, .ref a6, .int (nI wn), .ref a8, .int (nI bs), .int re, .int ot, .ref a12, .long ab, .long be, .long (fX7_mix hh ((we k77).toInt64))])), (a0, .inl (cI, 6, .inl (fun i => nI (sn i)))), (a1, .inl (cI, 96, .inl tu)), (a3, .inl (cI, 24, .inl we)), (a5, .inl (cI, 4, .inl (fun i => nI (per i)))), (a6, .inl (cI, 4, .inl rea)), (a8, .inl (cI, 64, .inl rw)), (a12, .inl (cI, 16, .inl cp))] H := hP
              have hD : va_D A [(h, .inr (5, [.ref a0, .ref a1, .int (nI fn), .ref a3, .int (nI rn), .ref a5, .ref a6, .int (nI wn), .ref a8, .int (nI bs), .int re, .int ot, .ref a12, .long ab, .long be, .long (fX7_mix hh ((we k77).toInt64))])), (a0, .inl (cI, 6, .inl (fun i => nI (sn i)))), (a1, .inl (cI, 96, .inl tu)), (a3, .inl (cI, 24, .inl we)), (a5, .inl (cI, 4, .inl (fun i => nI (per i)))), (a6, .inl (cI, 4, .inl rea)), (a8, .inl (cI, 64, .inl rw)), (a12, .inl (cI, 16, .inl cp))] := hD
              refine lv_iinc (v := nI (k77 + 1)) (lv' := [(1, .int (nI (k77 + 1))), (0, .ref h)]) hx hb dX7_digest_96 hl (k := 1) rfl (nI_1 _) (by decide) rfl (fun ls hl => ?_)
              refine lv_goto (tgt := 77) hx hb dX7_digest_99 (by decide) ?_
              exact ih77 (k77 + 1) (fX7_mix hh ((we k77).toInt64)) H locs ls (by omega) (by omega) hP hD hS (lv_sub hl [1, 0] rfl) hF
        exact lp77 (fn - 0) 0 (fX7_mix hh ((nI fn).toInt64)) H _ ls rfl (by omega) hP hD hS (lv_sub hl [1, 0] rfl) hF
      · exact False.elim (c12 (nI_le (a := 6) (b := k9) (by omega) (by omega)))
    | succ r9 ih9 =>
      intro k9 hh H locs ls hi9_0 hi9_1 hP hD hS hl hF
      have h16 := hsn k9 (by omega)
      rw [F_X7_digest_9] at hF
      refine lv_iload_n hx hb dX7_digest_9 rfl (lv_at hl 1 rfl) ?_
      refine lv_bipush (v := 6) hx hb dX7_digest_10 (by decide) ?_
      refine lv_icmp_ge (tgt := 66) hx hb dX7_digest_12 (by decide) (fun c12 => ?_) (fun c12 => ?_)
      · exact False.elim (nI_ge (a := k9) (b := 6) (by omega) (by omega) c12)
      · skip
        refine lv_aload_n hx hb dX7_digest_15 rfl (lv_at hl 0 rfl) ?_
        refine lv_aload_n hx hb dX7_digest_16 rfl (lv_at hl 0 rfl) ?_
        refine va_get (D := D) (ci := 5) (v := .ref a0) (C := RX7) (T := TX7) (N := 16) hx hb hts hinX7 hown hK.1 hP 0 rfl rfl 0 (by decide) hf7 (fun _ h9 => h9) rfl dX7_digest_17 ?_
        refine lv_iload_n hx hb dX7_digest_20 rfl (lv_at hl 1 rfl) ?_
        refine w_ald hx hb hK hP 1 0 rfl rfl (k9) rfl (by omega) (by omega) dX7_digest_21 ?_
        refine lv_i2l hx hb dX7_digest_22 rfl ?_
        refine cx_v (va_runV (As := [.long ((nI (sn k9)).toInt64)]) (rest := []) ⟨hx, hb, hml, hown, hts⟩ (c_X7_mix l D cI H.size h a0 a1 a3 a5 a6 a8 a12 sn tu fn we rn per rea wn rw bs re ot cp ab be hh ((nI (sn k9)).toInt64) ) (cwV 1 hts gX7_digest_X7_mix rfl rfl rfl (by decide +kernel) ⟨(Nat.le_of_ble_eq_true rfl), (Nat.le_of_ble_eq_true rfl)⟩) (wr_preV hP hD hK rfl (q0 := 0) rfl) rfl rfl hl.1 rfl (lv_room (Nat.le_of_ble_eq_true rfl)) dX7_digest_23 ⟨Nat.zero_le _, Nat.zero_le _⟩) hP hD hS hA [0, 1, 2, 3, 4, 5, 6, 7] rfl [h, a0, a1, a3, a5, a6, a8, a12] rfl rfl (fun H locs hP hD hS => ?_)
        have hP : va_P D vwCl [(h, .inr (5, [.ref a0, .ref a1, .int (nI fn), .ref a3, .int (nI rn), .ref a5, .ref a6, .int (nI wn), .ref a8, .int (nI bs), .int re, .int ot, .ref a12, .long ab, .long be, .long (fX7_mix hh ((nI (sn k9)).toInt64))])), (a0, .inl (cI, 6, .inl (fun i => nI (sn i)))), (a1, .inl (cI, 96, .inl tu)), (a3, .inl (cI, 24, .inl we)), (a5, .inl (cI, 4, .inl (fun i => nI (per i)))), (a6, .inl (cI, 4, .inl rea)), (a8, .inl (cI, 64, .inl rw)), (a12, .inl (cI, 16, .inl cp))] H := hP
        have hD : va_D A [(h, .inr (5, [.ref a0, .ref a1, .int (nI fn), .ref a3, .int (nI rn), .ref a5, .ref a6, .int (nI wn), .ref a8, .int (nI bs), .int re, .int ot, .ref a12, .long ab, .long be, .long (fX7_mix hh ((nI (sn k9)).toInt64))])), (a0, .inl (cI, 6, .inl (fun i => nI (sn i)))), (a1, .inl (cI, 96, .inl tu)), (a3, .inl (cI, 24, .inl we)), (a5, .inl (cI, 4, .inl (fun i => nI (per i)))), (a6, .inl (cI, 4, .inl rea)), (a8, .inl (cI, 64, .inl rw)), (a12, .inl (cI, 16, .inl cp))] := hD
        refine lv_iconst (v := 0) hx hb dX7_digest_26 (by decide) ?_
        refine lv_istore_n (lv' := [(2, .int 0), (0, .ref h), (1, .int (nI k9))]) hx hb dX7_digest_27 rfl hl (by decide) rfl (fun ls hl => ?_)
        have lp28 : ∀ (r28 k28 : Nat) (hh : Int64) (H : Heap) (locs : List Loc) (ls : Array Slot), r28 = (sn k9) - k28 → k28 ≤ (sn k9) + 1 → va_P D vwCl [(h, .inr (5, [.ref a0, .ref a1, .int (nI fn), .ref a3, .int (nI rn), .ref a5, .ref a6, .int (nI wn), .ref a8, .int (nI bs), .int re, .int ot, .ref a12, .long ab, .long be, .long hh])), (a0, .inl (cI, 6, .inl (fun i => nI (sn i)))), (a1, .inl (cI, 96, .inl tu)), (a3, .inl (cI, 24, .inl we)), (a5, .inl (cI, 4, .inl (fun i => nI (per i)))), (a6, .inl (cI, 4, .inl rea)), (a8, .inl (cI, 64, .inl rw)), (a12, .inl (cI, 16, .inl cp))] H → va_D A [(h, .inr (5, [.ref a0, .ref a1, .int (nI fn), .ref a3, .int (nI rn), .ref a5, .ref a6, .int (nI wn), .ref a8, .int (nI bs), .int re, .int ot, .ref a12, .long ab, .long be, .long hh])), (a0, .inl (cI, 6, .inl (fun i => nI (sn i)))), (a1, .inl (cI, 96, .inl tu)), (a3, .inl (cI, 24, .inl we)), (a5, .inl (cI, 4, .inl (fun i => nI (per i)))), (a6, .inl (cI, 4, .inl rea)), (a8, .inl (cI, 64, .inl rw)), (a12, .inl (cI, 16, .inl cp))] → va_S A s.heap H locs → lv_has ls 3 [(0, .ref h), (1, .int (nI k9)), (2, .int (nI k28))] → F_X7_digest_28 tu k9 (fun z28_0 => F_X7_digest_9 sn tu fn we rn per rea wn rw bs r9 (k9 + 1) z28_0) r28 k28 hh = T → W p l e (headSpec wsX7_digest rmX7_digest).room s m ([.ref h] : List Value).toArray below meth c H locs 0 0 Q (F0 m 28 ls []) := by
          intro r28
          induction r28 with
          | zero =>
            intro k28 hh H locs ls hi28_0 hi28_1 hP hD hS hl hF
            rw [F_X7_digest_28] at hF
            refine lv_iload_n hx hb dX7_digest_28 rfl (lv_at hl 2 rfl) ?_
            refine lv_aload_n hx hb dX7_digest_29 rfl (lv_at hl 0 rfl) ?_
            refine va_get (D := D) (ci := 5) (v := .ref a0) (C := RX7) (T := TX7) (N := 16) hx hb hts hinX7 hown hK.1 hP 0 rfl rfl 0 (by decide) hf7 (fun _ h9 => h9) rfl dX7_digest_30 ?_
            refine lv_iload_n hx hb dX7_digest_33 rfl (lv_at hl 1 rfl) ?_
            refine w_ald hx hb hK hP 1 0 rfl rfl (k9) rfl (by omega) (by omega) dX7_digest_34 ?_
            refine lv_icmp_ge (tgt := 60) hx hb dX7_digest_35 (by decide) (fun c35 => ?_) (fun c35 => ?_)
            · skip
              refine lv_iinc (v := nI (k9 + 1)) (lv' := [(1, .int (nI (k9 + 1))), (0, .ref h), (2, .int (nI k28))]) hx hb dX7_digest_60 hl (k := 1) rfl (nI_1 _) (by decide) rfl (fun ls hl => ?_)
              refine lv_goto (tgt := 9) hx hb dX7_digest_63 (by decide) ?_
              exact ih9 (k9 + 1) hh H locs ls (by omega) (by omega) hP hD hS (lv_sub hl [1, 0] rfl) hF
            · exact False.elim (c35 (nI_le (a := (sn k9)) (b := k28) (by omega) (by omega)))
          | succ r28 ih28 =>
            intro k28 hh H locs ls hi28_0 hi28_1 hP hD hS hl hF
            rw [F_X7_digest_28] at hF
            refine lv_iload_n hx hb dX7_digest_28 rfl (lv_at hl 2 rfl) ?_
            refine lv_aload_n hx hb dX7_digest_29 rfl (lv_at hl 0 rfl) ?_
            refine va_get (D := D) (ci := 5) (v := .ref a0) (C := RX7) (T := TX7) (N := 16) hx hb hts hinX7 hown hK.1 hP 0 rfl rfl 0 (by decide) hf7 (fun _ h9 => h9) rfl dX7_digest_30 ?_
            refine lv_iload_n hx hb dX7_digest_33 rfl (lv_at hl 1 rfl) ?_
            refine w_ald hx hb hK hP 1 0 rfl rfl (k9) rfl (by omega) (by omega) dX7_digest_34 ?_
            refine lv_icmp_ge (tgt := 60) hx hb dX7_digest_35 (by decide) (fun c35 => ?_) (fun c35 => ?_)
            · exact False.elim (nI_ge (a := k28) (b := (sn k9)) (by omega) (by omega) c35)
            · skip
              refine lv_aload_n hx hb dX7_digest_38 rfl (lv_at hl 0 rfl) ?_
              refine lv_aload_n hx hb dX7_digest_39 rfl (lv_at hl 0 rfl) ?_
              refine va_get (D := D) (ci := 5) (v := .ref a1) (C := RX7) (T := TX7) (N := 16) hx hb hts hinX7 hown hK.1 hP 0 rfl rfl 1 (by decide) hf13 (fun _ h9 => h9) rfl dX7_digest_40 ?_
              refine lv_bipush (v := 16) hx hb dX7_digest_43 (by decide) ?_
              refine lv_iload_n hx hb dX7_digest_45 rfl (lv_at hl 1 rfl) ?_
              refine lv_imul hx hb dX7_digest_46 ?_
              refine lv_iload_n hx hb dX7_digest_47 rfl (lv_at hl 2 rfl) ?_
              refine lv_iadd hx hb dX7_digest_48 ?_
              refine w_ald hx hb hK hP 2 0 rfl rfl (16 * k9 + k28) (idx16 _ _) (by omega) (by omega) dX7_digest_49 ?_
              refine lv_i2l hx hb dX7_digest_50 rfl ?_
              refine cx_v (va_runV (As := [.long ((tu (16 * k9 + k28)).toInt64)]) (rest := []) ⟨hx, hb, hml, hown, hts⟩ (c_X7_mix l D cI H.size h a0 a1 a3 a5 a6 a8 a12 sn tu fn we rn per rea wn rw bs re ot cp ab be hh ((tu (16 * k9 + k28)).toInt64) ) (cwV 1 hts gX7_digest_X7_mix rfl rfl rfl (by decide +kernel) ⟨(Nat.le_of_ble_eq_true rfl), (Nat.le_of_ble_eq_true rfl)⟩) (wr_preV hP hD hK rfl (q0 := 0) rfl) rfl rfl hl.1 rfl (lv_room (Nat.le_of_ble_eq_true rfl)) dX7_digest_51 ⟨Nat.zero_le _, Nat.zero_le _⟩) hP hD hS hA [0, 1, 2, 3, 4, 5, 6, 7] rfl [h, a0, a1, a3, a5, a6, a8, a12] rfl rfl (fun H locs hP hD hS => ?_)
              have hP : va_P D vwCl [(h, .inr (5, [.ref a0, .ref a1, .int (nI fn), .ref a3, .int (nI rn), .ref a5, .ref a6, .int (nI wn), .ref a8, .int (nI bs), .int re, .int ot, .ref a12, .long ab, .long be, .long (fX7_mix hh ((tu (16 * k9 + k28)).toInt64))])), (a0, .inl (cI, 6, .inl (fun i => nI (sn i)))), (a1, .inl (cI, 96, .inl tu)), (a3, .inl (cI, 24, .inl we)), (a5, .inl (cI, 4, .inl (fun i => nI (per i)))), (a6, .inl (cI, 4, .inl rea)), (a8, .inl (cI, 64, .inl rw)), (a12, .inl (cI, 16, .inl cp))] H := hP
              have hD : va_D A [(h, .inr (5, [.ref a0, .ref a1, .int (nI fn), .ref a3, .int (nI rn), .ref a5, .ref a6, .int (nI wn), .ref a8, .int (nI bs), .int re, .int ot, .ref a12, .long ab, .long be, .long (fX7_mix hh ((tu (16 * k9 + k28)).toInt64))])), (a0, .inl (cI, 6, .inl (fun i => nI (sn i)))), (a1, .inl (cI, 96, .inl tu)), (a3, .inl (cI, 24, .inl we)), (a5, .inl (cI, 4, .inl (fun i => nI (per i)))), (a6, .inl (cI, 4, .inl rea)), (a8, .inl (cI, 64, .inl rw)), (a12, .inl (cI, 16, .inl cp))] := hD
              refine lv_iinc (v := nI (k28 + 1)) (lv' := [(2, .int (nI (k28 + 1))), (0, .ref h), (1, .int (nI k9))]) hx hb dX7_digest_54 hl (k := 2) rfl (nI_1 _) (by decide) rfl (fun ls hl => ?_)
              refine lv_goto (tgt := 28) hx hb dX7_digest_57 (by decide) ?_
              exact ih28 (k28 + 1) (fX7_mix hh ((tu (16 * k9 + k28)).toInt64)) H locs ls (by omega) (by omega) hP hD hS (lv_sub hl [1, 2, 0] rfl) hF
        exact lp28 ((sn k9) - 0) 0 (fX7_mix hh ((nI (sn k9)).toInt64)) H _ ls rfl (by omega) hP hD hS (lv_sub hl [1, 2, 0] rfl) hF
  exact lp9 (6 - 0) 0 181 H _ ls rfl (by omega) hP hD hS (lv_sub hl [1, 0] rfl) hF
