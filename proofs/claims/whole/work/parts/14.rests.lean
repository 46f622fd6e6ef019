def fX2_mayUnfold (er : Int32) (mm : Int32) (sp : Int32) : Int32 := (if (fX6_within er 0 5) = 0 then 0 else (if (fX6_within mm 1 4) = 0 then 0 else (if (fX6_within sp 1 5000) = 0 then 0 else 1)))
abbrev rmX2_mayUnfold : Room := { frames := 1, cells := 0, slots := 0, locals := 22 }
set_option maxHeartbeats 4000000 in
set_option maxRecDepth 100000 in
theorem c_X2_mayUnfold (l : Launch) (D : va_G) (cI : ClassId) (er : Int32) (mm : Int32) (sp : Int32)  : Met l yX2_mayUnfold wsX2_mayUnfold rmX2_mayUnfold (va_Pc [.int er, .int mm, .int sp] (roP D [(cI, .int)] [])) (vp_Si (fun r9 => r9 = fX2_mayUnfold er mm sp)) 0 0 (fun _ => False) := by
  generalize hF : fX2_mayUnfold er mm sp = T
  refine Met.ofW (cc := cX2_mayUnfold) (maxL := 3) (ret := (some .boolean)) (by decide) rfl ?_
  intro p e s m args below meth c s₁ B hml hv
  obtain ⟨rfl, hP, hK⟩ := hv
  have hx := B.exec
  have hb := B.bytes
  have hr := B.returns
  have hts := atoms_spec (ws := wsX2_mayUnfold) B.pre
  have hown : s.vm.findClass RX2 = some m.cls := findClass_of_methodNamed B.named
  have hlocks := B.notSynchronized
  have hiniX6 := hts (.initialized RX6) (by decide +kernel)
  have hst_X6_within := hts (.static yX6_within) (by decide +kernel)
  have hl := lv_entry ([.int er, .int mm, .int sp]) (n := 3) (Nat.le_of_ble_eq_true rfl)
  rw [lg_entry_eq]
  generalize (lg_sl ([.int er, .int mm, .int sp]) ++ List.replicate (3 - (lg_sl ([.int er, .int mm, .int sp])).length) Slot.unset).toArray = ls at hl ⊢
  refine w_Q (fun Q hQ => ?_)
  have hl : lv_has ls 3 [(0, .int er), (1, .int mm), (2, .int sp)] := hl
  rw [fX2_mayUnfold] at hF
  refine lv_iload_n hx hb dX2_mayUnfold_0 rfl (lv_at hl 0 rfl) ?_
  refine lv_iconst (v := 0) hx hb dX2_mayUnfold_1 (by decide) ?_
  refine lv_iconst (v := 5) hx hb dX2_mayUnfold_2 (by decide) ?_
  refine cs_i (va_runSN (As := [.int er, .int 0, .int 5]) (rest := []) ⟨hx, hb, hml, hown, hts⟩ (c_X6_within l D cI er 0 5 ) ⟨va_cnB 3 hts gX2_mayUnfold_X6_within_n22 rfl rfl rfl hK.2.2.2.2.2.2.1 hiniX6 (by decide +kernel) ⟨(Nat.le_of_ble_eq_true rfl), (Nat.le_of_ble_eq_true rfl)⟩, hst_X6_within, trivial⟩ (ro_pre hP hK) rfl rfl hl.1 rfl (lv_room (Nat.le_of_ble_eq_true rfl)) dX2_mayUnfold_3 ⟨Nat.zero_le _, Nat.zero_le _⟩) ?_
  refine lv_if_eq (tgt := 33) hx hb dX2_mayUnfold_6 (by decide) (fun c6 => ?_) (fun c6 => ?_)
  · rw [if_pos c6] at hF
    refine lv_iconst (v := 0) hx hb dX2_mayUnfold_33 (by decide) ?_
    subst hQ
    exact W.zret (v := 0) (ty := .boolean) hx hb hr rfl (fun u9 ht hW => ⟨_, rfl, hF, ht⟩) (fun q hq => by cases hq) dX2_mayUnfold_34
  · rw [if_neg c6] at hF
    refine lv_iload_n hx hb dX2_mayUnfold_9 rfl (lv_at hl 1 rfl) ?_
    refine lv_iconst (v := 1) hx hb dX2_mayUnfold_10 (by decide) ?_
    refine lv_iconst (v := 4) hx hb dX2_mayUnfold_11 (by decide) ?_
    refine cs_i (va_runSN (As := [.int mm, .int 1, .int 4]) (rest := []) ⟨hx, hb, hml, hown, hts⟩ (c_X6_within l D cI mm 1 4 ) ⟨va_cnB 3 hts gX2_mayUnfold_X6_within_n22 rfl rfl rfl hK.2.2.2.2.2.2.1 hiniX6 (by decide +kernel) ⟨(Nat.le_of_ble_eq_true rfl), (Nat.le_of_ble_eq_true rfl)⟩, hst_X6_within, trivial⟩ (ro_pre hP hK) rfl rfl hl.1 rfl (lv_room (Nat.le_of_ble_eq_true rfl)) dX2_mayUnfold_12 ⟨Nat.zero_le _, Nat.zero_le _⟩) ?_
    refine lv_if_eq (tgt := 33) hx hb dX2_mayUnfold_15 (by decide) (fun c15 => ?_) (fun c15 => ?_)
    · rw [if_pos c15] at hF
      refine lv_iconst (v := 0) hx hb dX2_mayUnfold_33 (by decide) ?_
      subst hQ
      exact W.zret (v := 0) (ty := .boolean) hx hb hr rfl (fun u9 ht hW => ⟨_, rfl, hF, ht⟩) (fun q hq => by cases hq) dX2_mayUnfold_34
    · rw [if_neg c15] at hF
      refine lv_iload_n hx hb dX2_mayUnfold_18 rfl (lv_at hl 2 rfl) ?_
      refine lv_iconst (v := 1) hx hb dX2_mayUnfold_19 (by decide) ?_
      refine lv_sipush (v := 5000) hx hb dX2_mayUnfold_20 (by decide) ?_
      refine cs_i (va_runSN (As := [.int sp, .int 1, .int 5000]) (rest := []) ⟨hx, hb, hml, hown, hts⟩ (c_X6_within l D cI sp 1 5000 ) ⟨va_cnB 3 hts gX2_mayUnfold_X6_within_n22 rfl rfl rfl hK.2.2.2.2.2.2.1 hiniX6 (by decide +kernel) ⟨(Nat.le_of_ble_eq_true rfl), (Nat.le_of_ble_eq_true rfl)⟩, hst_X6_within, trivial⟩ (ro_pre hP hK) rfl rfl hl.1 rfl (lv_room (Nat.le_of_ble_eq_true rfl)) dX2_mayUnfold_23 ⟨Nat.zero_le _, Nat.zero_le _⟩) ?_
      refine lv_if_eq (tgt := 33) hx hb dX2_mayUnfold_26 (by decide) (fun c26 => ?_) (fun c26 => ?_)
      · rw [if_pos c26] at hF
        refine lv_iconst (v := 0) hx hb dX2_mayUnfold_33 (by decide) ?_
        subst hQ
        exact W.zret (v := 0) (ty := .boolean) hx hb hr rfl (fun u9 ht hW => ⟨_, rfl, hF, ht⟩) (fun q hq => by cases hq) dX2_mayUnfold_34
      · rw [if_neg c26] at hF
        refine lv_iconst (v := 1) hx hb dX2_mayUnfold_29 (by decide) ?_
        refine lv_goto (tgt := 34) hx hb dX2_mayUnfold_30 (by decide) ?_
        subst hQ
        exact W.zret (v := 1) (ty := .boolean) hx hb hr rfl (fun u9 ht hW => ⟨_, rfl, hF, ht⟩) (fun q hq => by cases hq) dX2_mayUnfold_34
def fX2_has (rn : Nat) (i : Int32) : Int32 := fX6_within i 0 ((nI rn) - 1)
abbrev rmX2_has : Room := { frames := 1, cells := 0, slots := 0, locals := 22 }
set_option maxHeartbeats 4000000 in
set_option maxRecDepth 100000 in
theorem c_X2_has (l : Launch) (D : va_G) (cI : ClassId) (h : Nat) (tp : Nat) (tq : Nat) (per : Nat → Int32) (rea : Nat → Int32) (rn : Nat) (i : Int32)  : Met l yX2_has wsX2_has rmX2_has (va_Pc [.ref h, .int i] (roP D [(cI, .int)] [(h, .inr (1, [.ref tp, .ref tq, .int (nI rn)])), (tp, .inl (cI, 4, .inl per)), (tq, .inl (cI, 4, .inl rea))])) (vp_Si (fun r9 => r9 = fX2_has rn i)) 0 0 (fun _ => False) := by
  generalize hF : fX2_has rn i = T
  refine Met.ofW (cc := cX2_has) (maxL := 2) (ret := (some .boolean)) (by decide) rfl ?_
  intro p e s m args below meth c s₁ B hml hv
  obtain ⟨rfl, hP, hK⟩ := hv
  have hx := B.exec
  have hb := B.bytes
  have hr := B.returns
  have hts := atoms_spec (ws := wsX2_has) B.pre
  have hown : s.vm.findClass RX2 = some m.cls := findClass_of_methodNamed B.named
  have hlocks := B.notSynchronized
  have hinX2 : ∀ w ∈ u_ws RX2 TX2 3, w ∈ wsX2_has := by decide +kernel
  have hf26 := hts (.fieldLink RX2 26 "PulseSigns$Rests" "length" "I") (by decide +kernel)
  have hiniX6 := hts (.initialized RX6) (by decide +kernel)
  have hst_X6_within := hts (.static yX6_within) (by decide +kernel)
  have hl := lv_entry ([.ref h, .int i]) (n := 2) (Nat.le_of_ble_eq_true rfl)
  rw [lg_entry_eq]
  generalize (lg_sl ([.ref h, .int i]) ++ List.replicate (2 - (lg_sl ([.ref h, .int i])).length) Slot.unset).toArray = ls at hl ⊢
  refine w_Q (fun Q hQ => ?_)
  have hl : lv_has ls 2 [(0, .ref h), (1, .int i)] := hl
  rw [fX2_has] at hF
  refine lv_iload_n hx hb dX2_has_0 rfl (lv_at hl 1 rfl) ?_
  refine lv_iconst (v := 0) hx hb dX2_has_1 (by decide) ?_
  refine lv_aload_n hx hb dX2_has_2 rfl (lv_at hl 0 rfl) ?_
  refine va_get (D := D) (ci := 1) (v := .int (nI rn)) (C := RX2) (T := TX2) (N := 3) hx hb hts hinX2 hown hK.1 hP 0 rfl rfl 2 (by decide) hf26 (fun _ h9 => h9) rfl dX2_has_3 ?_
  refine lv_iconst (v := 1) hx hb dX2_has_6 (by decide) ?_
  refine lv_isub hx hb dX2_has_7 ?_
  have hPc := hP.sub (ws' := []) [] rfl
  refine cs_i (va_runSN (As := [.int i, .int 0, .int ((nI rn) - 1)]) (rest := []) ⟨hx, hb, hml, hown, hts⟩ (c_X6_within l D cI i 0 ((nI rn) - 1) ) ⟨va_cnB 3 hts gX2_has_X6_within_n22 rfl rfl rfl hK.2.2.2.2.2.2.1 hiniX6 (by decide +kernel) ⟨(Nat.le_of_ble_eq_true rfl), (Nat.le_of_ble_eq_true rfl)⟩, hst_X6_within, trivial⟩ (ro_pre hPc hK) rfl rfl hl.1 rfl (lv_room (Nat.le_of_ble_eq_true rfl)) dX2_has_8 ⟨Nat.zero_le _, Nat.zero_le _⟩) ?_
  subst hQ
  exact W.zret (v := fX6_within i 0 ((nI rn) - 1)) (ty := .boolean) hx hb hr (nb_of (bX6_within ..)) (fun u9 ht hW => ⟨_, rfl, hF, ht⟩) (fun q hq => by cases hq) dX2_has_11
theorem bX2_has (rn : Nat) (i : Int32) : fX2_has rn i = 0 ∨ fX2_has rn i = 1 := bX6_within ..
def F_X2_reset_7 (n2 : Nat) : Nat → Nat → (Nat → Int32) → (Nat → Int32) → (Nat × (Nat → Int32) × (Nat → Int32))
  | 0, k7, per, rea => (n2, per, rea)
  | r7 + 1, k7, per, rea => F_X2_reset_7 n2 r7 (k7 + 1) (upd per k7 2) (upd rea k7 (-1))
def fX2_reset (per : Nat → Int32) (rea : Nat → Int32) (n2 : Nat) : Nat × (Nat → Int32) × (Nat → Int32) := F_X2_reset_7 n2 (4 - 0) 0 per rea
abbrev rmX2_reset : Room := { frames := 0, cells := 0, slots := 0, locals := 0 }
set_option maxHeartbeats 4000000 in
set_option maxRecDepth 100000 in
theorem c_X2_reset (l : Launch) (D : va_G) (cI : ClassId) (sz : Nat) (h : Nat) (tp : Nat) (tq : Nat) (per : Nat → Int32) (rea : Nat → Int32) (rn : Nat) (n2 : Nat)  : Met l yX2_reset wsX2_reset rmX2_reset (va_Pc [.ref h, .int (nI n2)] (wrP D [(cI, .int)] [(h, .inr (1, [.ref tp, .ref tq, .int (nI rn)])), (tp, .inl (cI, 4, .inl per)), (tq, .inl (cI, 4, .inl rea))] sz)) (va_Qv (fun (_ : Unit) => True) (fun _ u9 => va_P D vwCl [(h, .inr (1, [.ref tp, .ref tq, .int (nI ((fX2_reset per rea n2).1))])), (tp, .inl (cI, 4, .inl ((fX2_reset per rea n2).2.1))), (tq, .inl (cI, 4, .inl ((fX2_reset per rea n2).2.2)))] u9.heap) (va_A [(h, .inr (1, [.ref tp, .ref tq, .int (nI rn)])), (tp, .inl (cI, 4, .inl per)), (tq, .inl (cI, 4, .inl rea))] sz)) 0 0 (va_A [(h, .inr (1, [.ref tp, .ref tq, .int (nI rn)])), (tp, .inl (cI, 4, .inl per)), (tq, .inl (cI, 4, .inl rea))] sz) := by
  generalize hF : fX2_reset per rea n2 = T
  refine Met.ofW (cc := cX2_reset) (maxL := 3) (ret := none) (by decide) rfl ?_
  intro p e s m args below meth c s₁ B hml hv
  obtain ⟨rfl, hsz, hP, hK, hD0⟩ := hv
  have hx := B.exec
  have hb := B.bytes
  have hr := B.returns
  have hts := atoms_spec (ws := wsX2_reset) B.pre
  have hown : s.vm.findClass RX2 = some m.cls := findClass_of_methodNamed B.named
  have hlocks := B.notSynchronized
  have hinX2 : ∀ w ∈ u_ws RX2 TX2 3, w ∈ wsX2_reset := by decide +kernel
  have hf26 := hts (.fieldLink RX2 26 "PulseSigns$Rests" "length" "I") (by decide +kernel)
  have hf11 := hts (.fieldLink RX2 11 "PulseSigns$Rests" "periods" "[I") (by decide +kernel)
  have hf15 := hts (.fieldLink RX2 15 "PulseSigns$Rests" "readings" "[I") (by decide +kernel)
  subst hsz
  have hD := hD0.self (sz := s.heap.size)
  generalize hAe : va_A [(h, .inr (1, [.ref tp, .ref tq, .int (nI rn)])), (tp, .inl (cI, 4, .inl per)), (tq, .inl (cI, 4, .inl rea))] s.heap.size = A at hD ⊢
  have hA : ∀ q : Nat, s.heap.size ≤ q → A q := fun q h => by rw [← hAe]; exact Or.inr h
  have hS : va_S A s.heap s.heap [] := va_S.rf
  have hP : va_P D vwCl [(h, .inr (1, [.ref tp, .ref tq, .int (nI rn)])), (tp, .inl (cI, 4, .inl per)), (tq, .inl (cI, 4, .inl rea))] s.heap := hP
  have hl := lv_entry ([.ref h, .int (nI n2)]) (n := 3) (Nat.le_of_ble_eq_true rfl)
  rw [lg_entry_eq]
  generalize (lg_sl ([.ref h, .int (nI n2)]) ++ List.replicate (3 - (lg_sl ([.ref h, .int (nI n2)])).length) Slot.unset).toArray = ls at hl ⊢
  refine w_Q (fun Q hQ => ?_)
  have hl : lv_has ls 3 [(0, .ref h), (1, .int (nI n2))] := hl
  rw [fX2_reset] at hF
  refine lv_aload_n hx hb dX2_reset_0 rfl (lv_at hl 0 rfl) ?_
  refine lv_iload_n hx hb dX2_reset_1 rfl (lv_at hl 1 rfl) ?_
  refine va_put (D := D) (ci := 1) (v := .int (nI n2)) (ty := .int) (C := RX2) (T := TX2) (N := 3) hx hb hts hinX2 tyX2 tyX2_ok nmX2 hown hK.1 hP hD hS 0 rfl rfl 2 (by decide) hf26 (fun _ h9 => h9) rfl (by decide +kernel) rfl rfl (Nat.le_of_ble_eq_true rfl) dX2_reset_2 (fun H locs hP hD hS => ?_)
  have hP : va_P D vwCl [(h, .inr (1, [.ref tp, .ref tq, .int (nI n2)])), (tp, .inl (cI, 4, .inl per)), (tq, .inl (cI, 4, .inl rea))] H := hP
  have hD : va_D A [(h, .inr (1, [.ref tp, .ref tq, .int (nI n2)])), (tp, .inl (cI, 4, .inl per)), (tq, .inl (cI, 4, .inl rea))] := hD
  refine lv_iconst (v := 0) hx hb dX2_reset_5 (by decide) ?_
  refine lv_istore_n (lv' := [(2, .int 0), (0, .ref h), (1, .int (nI n2))]) hx hb dX2_reset_6 rfl hl (by decide) rfl (fun ls hl => ?_)
  have lp7 : ∀ (r7 k7 : Nat) (per : Nat → Int32) (rea : Nat → Int32) (H : Heap) (locs : List Loc) (ls : Array Slot), r7 = 4 - k7 → k7 ≤ 4 + 1 → va_P D vwCl [(h, .inr (1, [.ref tp, .ref tq, .int (nI n2)])), (tp, .inl (cI, 4, .inl per)), (tq, .inl (cI, 4, .inl rea))] H → va_D A [(h, .inr (1, [.ref tp, .ref tq, .int (nI n2)])), (tp, .inl (cI, 4, .inl per)), (tq, .inl (cI, 4, .inl rea))] → va_S A s.heap H locs → lv_has ls 3 [(0, .ref h), (1, .int (nI n2)), (2, .int (nI k7))] → F_X2_reset_7 n2 r7 k7 per rea = T → W p l e (headSpec wsX2_reset rmX2_reset).room s m ([.ref h, .int (nI n2)] : List Value).toArray below meth c H locs 0 0 Q (F0 m 7 ls []) := by
    intro r7
    induction r7 with
    | zero =>
      intro k7 per rea H locs ls hi7_0 hi7_1 hP hD hS hl hF
      rw [F_X2_reset_7] at hF
      refine lv_iload_n hx hb dX2_reset_7 rfl (lv_at hl 2 rfl) ?_
      refine lv_iconst (v := 4) hx hb dX2_reset_8 (by decide) ?_
      refine lv_icmp_ge (tgt := 32) hx hb dX2_reset_9 (by decide) (fun c9 => ?_) (fun c9 => ?_)
      · skip
        subst hF
        subst hQ
        exact W.vret hx hb hr (fun u9 ht hW => ⟨⟨(), rfl, trivial, by rw [← ht] at hP; exact hP⟩, hS.F ht⟩) hS.2.2 dX2_reset_32
      · exact False.elim (c9 (nI_le (a := 4) (b := k7) (by omega) (by omega)))
    | succ r7 ih7 =>
      intro k7 per rea H locs ls hi7_0 hi7_1 hP hD hS hl hF
      rw [F_X2_reset_7] at hF
      refine lv_iload_n hx hb dX2_reset_7 rfl (lv_at hl 2 rfl) ?_
      refine lv_iconst (v := 4) hx hb dX2_reset_8 (by decide) ?_
      refine lv_icmp_ge (tgt := 32) hx hb dX2_reset_9 (by decide) (fun c9 => ?_) (fun c9 => ?_)
      · exact False.elim (nI_ge (a := k7) (b := 4) (by omega) (by omega) c9)
      · skip
        refine lv_aload_n hx hb dX2_reset_12 rfl (lv_at hl 0 rfl) ?_
        refine va_get (D := D) (ci := 1) (v := .ref tp) (C := RX2) (T := TX2) (N := 3) hx hb hts hinX2 hown hK.1 hP 0 rfl rfl 0 (by decide) hf11 (fun _ h9 => h9) rfl dX2_reset_13 ?_
        refine lv_iload_n hx hb dX2_reset_16 rfl (lv_at hl 2 rfl) ?_
        refine lv_iconst (v := 2) hx hb dX2_reset_17 (by decide) ?_
        refine w_ast hx hb hK hP hD hS 1 0 rfl rfl (k7) rfl (by omega) (by omega) dX2_reset_18 (fun H locs hP hD hS => ?_)
        have hP : va_P D vwCl [(h, .inr (1, [.ref tp, .ref tq, .int (nI n2)])), (tp, .inl (cI, 4, .inl (upd per k7 2))), (tq, .inl (cI, 4, .inl rea))] H := hP
        have hD : va_D A [(h, .inr (1, [.ref tp, .ref tq, .int (nI n2)])), (tp, .inl (cI, 4, .inl (upd per k7 2))), (tq, .inl (cI, 4, .inl rea))] := hD
        refine lv_aload_n hx hb dX2_reset_19 rfl (lv_at hl 0 rfl) ?_
        refine va_get (D := D) (ci := 1) (v := .ref tq) (C := RX2) (T := TX2) (N := 3) hx hb hts hinX2 hown hK.1 hP 0 rfl rfl 1 (by decide) hf15 (fun _ h9 => h9) rfl dX2_reset_20 ?_
        refine lv_iload_n hx hb dX2_reset_23 rfl (lv_at hl 2 rfl) ?_
        refine lv_iconst (v := (-1)) hx hb dX2_reset_24 (by decide) ?_
        refine w_ast hx hb hK hP hD hS 2 0 rfl rfl (k7) rfl (by omega) (by omega) dX2_reset_25 (fun H locs hP hD hS => ?_)
        have hP : va_P D vwCl [(h, .inr (1, [.ref tp, .ref tq, .int (nI n2)])), (tp, .inl (cI, 4, .inl (upd per k7 2))), (tq, .inl (cI, 4, .inl (upd rea k7 (-1))))] H := hP
        have hD : va_D A [(h, .inr (1, [.ref tp, .ref tq, .int (nI n2)])), (tp, .inl (cI, 4, .inl (upd per k7 2))), (tq, .inl (cI, 4, .inl (upd rea k7 (-1))))] := hD
        refine lv_iinc (v := nI (k7 + 1)) (lv' := [(2, .int (nI (k7 + 1))), (0, .ref h), (1, .int (nI n2))]) hx hb dX2_reset_26 hl (k := 2) rfl (nI_1 _) (by decide) rfl (fun ls hl => ?_)
        refine lv_goto (tgt := 7) hx hb dX2_reset_29 (by decide) ?_
        exact ih7 (k7 + 1) (upd per k7 2) (upd rea k7 (-1)) H locs ls (by omega) (by omega) hP hD hS (lv_sub hl [1, 2, 0] rfl) hF
  exact lp7 (4 - 0) 0 per rea H _ ls rfl (by omega) hP hD hS (lv_sub hl [1, 2, 0] rfl) hF
def fX2_foldedBy (per : Nat → Int32) (i : Nat) (r : Int32) : Int32 := (if (per i) < 2 then 0 else r - r / (per i) * (per i))
abbrev rmX2_foldedBy : Room := { frames := 0, cells := 0, slots := 0, locals := 0 }
set_option maxHeartbeats 4000000 in
set_option maxRecDepth 100000 in
theorem c_X2_foldedBy (l : Launch) (D : va_G) (cI : ClassId) (h : Nat) (tp : Nat) (tq : Nat) (per : Nat → Int32) (rea : Nat → Int32) (rn : Nat) (i : Nat) (r : Int32) (hrn : rn ≤ 4) (hper : ∀ i, i < 4 → ¬ per i = 0) (hi : i < 4) : Met l yX2_foldedBy wsX2_foldedBy rmX2_foldedBy (va_Pc [.ref h, .int (nI i), .int r] (roP D [(cI, .int)] [(h, .inr (1, [.ref tp, .ref tq, .int (nI rn)])), (tp, .inl (cI, 4, .inl per)), (tq, .inl (cI, 4, .inl rea))])) (vp_Si (fun r9 => r9 = fX2_foldedBy per i r)) 0 0 (fun _ => False) := by
  generalize hF : fX2_foldedBy per i r = T
  refine Met.ofW (cc := cX2_foldedBy) (maxL := 4) (ret := (some .int)) (by decide) rfl ?_
  intro p e s m args below meth c s₁ B hml hv
  obtain ⟨rfl, hP, hK⟩ := hv
  have hx := B.exec
  have hb := B.bytes
  have hr := B.returns
  have hts := atoms_spec (ws := wsX2_foldedBy) B.pre
  have hown : s.vm.findClass RX2 = some m.cls := findClass_of_methodNamed B.named
  have hlocks := B.notSynchronized
  have hinX2 : ∀ w ∈ u_ws RX2 TX2 3, w ∈ wsX2_foldedBy := by decide +kernel
  have hf11 := hts (.fieldLink RX2 11 "PulseSigns$Rests" "periods" "[I") (by decide +kernel)
  have hl := lv_entry ([.ref h, .int (nI i), .int r]) (n := 4) (Nat.le_of_ble_eq_true rfl)
  rw [lg_entry_eq]
  generalize (lg_sl ([.ref h, .int (nI i), .int r]) ++ List.replicate (4 - (lg_sl ([.ref h, .int (nI i), .int r])).length) Slot.unset).toArray = ls at hl ⊢
  refine w_Q (fun Q hQ => ?_)
  have hl : lv_has ls 4 [(0, .ref h), (1, .int (nI i)), (2, .int r)] := hl
  rw [fX2_foldedBy] at hF
  refine lv_aload_n hx hb dX2_foldedBy_0 rfl (lv_at hl 0 rfl) ?_
  refine va_get (D := D) (ci := 1) (v := .ref tp) (C := RX2) (T := TX2) (N := 3) hx hb hts hinX2 hown hK.1 hP 0 rfl rfl 0 (by decide) hf11 (fun _ h9 => h9) rfl dX2_foldedBy_1 ?_
  refine lv_iload_n hx hb dX2_foldedBy_4 rfl (lv_at hl 1 rfl) ?_
  refine w_ald hx hb hK hP 1 0 rfl rfl (i) rfl (by omega) (by omega) dX2_foldedBy_5 ?_
  refine lv_istore_n (lv' := [(3, .int (per i)), (0, .ref h), (1, .int (nI i)), (2, .int r)]) hx hb dX2_foldedBy_6 rfl hl (by decide) rfl (fun ls hl => ?_)
  refine lv_iload_n hx hb dX2_foldedBy_7 rfl (lv_at hl 0 rfl) ?_
  refine lv_iconst (v := 2) hx hb dX2_foldedBy_8 (by decide) ?_
  refine lv_icmp_lt (tgt := 18) hx hb dX2_foldedBy_9 (by decide) (fun c9 => ?_) (fun c9 => ?_)
  · rw [if_pos c9] at hF
    refine lv_iconst (v := 0) hx hb dX2_foldedBy_18 (by decide) ?_
    subst hQ
    exact W.iret (v := 0) hx hb hr (fun u9 ht hW => ⟨_, rfl, hF, ht⟩) (fun q hq => by cases hq) dX2_foldedBy_19
  · rw [if_neg c9] at hF
    refine lv_iload_n hx hb dX2_foldedBy_12 rfl (lv_at hl 3 rfl) ?_
    refine lv_iload_n hx hb dX2_foldedBy_13 rfl (lv_at hl 0 rfl) ?_
    refine lv_irem hx hb dX2_foldedBy_14 (hper _ hi) ?_
    refine lv_goto (tgt := 19) hx hb dX2_foldedBy_15 (by decide) ?_
    subst hQ
    exact W.iret (v := r - r / (per i) * (per i)) hx hb hr (fun u9 ht hW => ⟨_, rfl, hF, ht⟩) (fun q hq => by cases hq) dX2_foldedBy_19
def F_X2_readAll_2 (per : Nat → Int32) (r : Int32) : Nat → Nat → (Nat → Int32) → (Nat → Int32)
  | 0, k2, rea => rea
  | r2 + 1, k2, rea => F_X2_readAll_2 per r r2 (k2 + 1) (upd rea k2 (fX2_foldedBy per k2 r))
def fX2_readAll (per : Nat → Int32) (rea : Nat → Int32) (rn : Nat) (r : Int32) : (Nat → Int32) := F_X2_readAll_2 per r (rn - 0) 0 rea
abbrev rmX2_readAll : Room := { frames := 1, cells := 0, slots := 0, locals := 23 }
set_option maxHeartbeats 4000000 in
set_option maxRecDepth 100000 in
theorem c_X2_readAll (l : Launch) (D : va_G) (cI : ClassId) (sz : Nat) (h : Nat) (tp : Nat) (tq : Nat) (per : Nat → Int32) (rea : Nat → Int32) (rn : Nat) (r : Int32) (hrn : rn ≤ 4) (hper : ∀ i, i < 4 → ¬ per i = 0) : Met l yX2_readAll wsX2_readAll rmX2_readAll (va_Pc [.ref h, .int r] (wrP D [(cI, .int)] [(h, .inr (1, [.ref tp, .ref tq, .int (nI rn)])), (tp, .inl (cI, 4, .inl per)), (tq, .inl (cI, 4, .inl rea))] sz)) (va_Qv (fun (_ : Unit) => True) (fun _ u9 => va_P D vwCl [(h, .inr (1, [.ref tp, .ref tq, .int (nI rn)])), (tp, .inl (cI, 4, .inl per)), (tq, .inl (cI, 4, .inl (fX2_readAll per rea rn r)))] u9.heap) (va_A [(h, .inr (1, [.ref tp, .ref tq, .int (nI rn)])), (tp, .inl (cI, 4, .inl per)), (tq, .inl (cI, 4, .inl rea))] sz)) 0 0 (va_A [(h, .inr (1, [.ref tp, .ref tq, .int (nI rn)])), (tp, .inl (cI, 4, .inl per)), (tq, .inl (cI, 4, .inl rea))] sz) := by
  generalize hF : fX2_readAll per rea rn r = T
  refine Met.ofW (cc := cX2_readAll) (maxL := 3) (ret := none) (by decide) rfl ?_
  intro p e s m args below meth c s₁ B hml hv
  obtain ⟨rfl, hsz, hP, hK, hD0⟩ := hv
  have hx := B.exec
  have hb := B.bytes
  have hr := B.returns
  have hts := atoms_spec (ws := wsX2_readAll) B.pre
  have hown : s.vm.findClass RX2 = some m.cls := findClass_of_methodNamed B.named
  have hlocks := B.notSynchronized
  have hinX2 : ∀ w ∈ u_ws RX2 TX2 3, w ∈ wsX2_readAll := by decide +kernel
  have hf26 := hts (.fieldLink RX2 26 "PulseSigns$Rests" "length" "I") (by decide +kernel)
  have hf15 := hts (.fieldLink RX2 15 "PulseSigns$Rests" "readings" "[I") (by decide +kernel)
  subst hsz
  have hD := hD0.self (sz := s.heap.size)
  generalize hAe : va_A [(h, .inr (1, [.ref tp, .ref tq, .int (nI rn)])), (tp, .inl (cI, 4, .inl per)), (tq, .inl (cI, 4, .inl rea))] s.heap.size = A at hD ⊢
  have hA : ∀ q : Nat, s.heap.size ≤ q → A q := fun q h => by rw [← hAe]; exact Or.inr h
  have hS : va_S A s.heap s.heap [] := va_S.rf
  have hP : va_P D vwCl [(h, .inr (1, [.ref tp, .ref tq, .int (nI rn)])), (tp, .inl (cI, 4, .inl per)), (tq, .inl (cI, 4, .inl rea))] s.heap := hP
  have hl := lv_entry ([.ref h, .int r]) (n := 3) (Nat.le_of_ble_eq_true rfl)
  rw [lg_entry_eq]
  generalize (lg_sl ([.ref h, .int r]) ++ List.replicate (3 - (lg_sl ([.ref h, .int r])).length) Slot.unset).toArray = ls at hl ⊢
  refine w_Q (fun Q hQ => ?_)
  have hl : lv_has ls 3 [(0, .ref h), (1, .int r)] := hl
  rw [fX2_readAll] at hF
  refine lv_iconst (v := 0) hx hb dX2_readAll_0 (by decide) ?_
  refine lv_istore_n (lv' := [(2, .int 0), (0, .ref h), (1, .int r)]) hx hb dX2_readAll_1 rfl hl (by decide) rfl (fun ls hl => ?_)
  have lp2 : ∀ (r2 k2 : Nat) (rea : Nat → Int32) (H : Heap) (locs : List Loc) (ls : Array Slot), r2 = rn - k2 → k2 ≤ rn + 1 → va_P D vwCl [(h, .inr (1, [.ref tp, .ref tq, .int (nI rn)])), (tp, .inl (cI, 4, .inl per)), (tq, .inl (cI, 4, .inl rea))] H → va_D A [(h, .inr (1, [.ref tp, .ref tq, .int (nI rn)])), (tp, .inl (cI, 4, .inl per)), (tq, .inl (cI, 4, .inl rea))] → va_S A s.heap H locs → lv_has ls 3 [(0, .ref h), (1, .int r), (2, .int (nI k2))] → F_X2_readAll_2 per r r2 k2 rea = T → W p l e (headSpec wsX2_readAll rmX2_readAll).room s m ([.ref h, .int r] : List Value).toArray below meth c H locs 0 0 Q (F0 m 2 ls []) := by
    intro r2
    induction r2 with
    | zero =>
      intro k2 rea H locs ls hi2_0 hi2_1 hP hD hS hl hF
      rw [F_X2_readAll_2] at hF
      refine lv_iload_n hx hb dX2_readAll_2 rfl (lv_at hl 2 rfl) ?_
      refine lv_aload_n hx hb dX2_readAll_3 rfl (lv_at hl 0 rfl) ?_
      refine va_get (D := D) (ci := 1) (v := .int (nI rn)) (C := RX2) (T := TX2) (N := 3) hx hb hts hinX2 hown hK.1 hP 0 rfl rfl 2 (by decide) hf26 (fun _ h9 => h9) rfl dX2_readAll_4 ?_
      refine lv_icmp_ge (tgt := 28) hx hb dX2_readAll_7 (by decide) (fun c7 => ?_) (fun c7 => ?_)
      · skip
        subst hF
        subst hQ
        exact W.vret hx hb hr (fun u9 ht hW => ⟨⟨(), rfl, trivial, by rw [← ht] at hP; exact hP⟩, hS.F ht⟩) hS.2.2 dX2_readAll_28
      · exact False.elim (c7 (nI_le (a := rn) (b := k2) (by omega) (by omega)))
    | succ r2 ih2 =>
      intro k2 rea H locs ls hi2_0 hi2_1 hP hD hS hl hF
      rw [F_X2_readAll_2] at hF
      refine lv_iload_n hx hb dX2_readAll_2 rfl (lv_at hl 2 rfl) ?_
      refine lv_aload_n hx hb dX2_readAll_3 rfl (lv_at hl 0 rfl) ?_
      refine va_get (D := D) (ci := 1) (v := .int (nI rn)) (C := RX2) (T := TX2) (N := 3) hx hb hts hinX2 hown hK.1 hP 0 rfl rfl 2 (by decide) hf26 (fun _ h9 => h9) rfl dX2_readAll_4 ?_
      refine lv_icmp_ge (tgt := 28) hx hb dX2_readAll_7 (by decide) (fun c7 => ?_) (fun c7 => ?_)
      · exact False.elim (nI_ge (a := k2) (b := rn) (by omega) (by omega) c7)
      · skip
        refine lv_aload_n hx hb dX2_readAll_10 rfl (lv_at hl 0 rfl) ?_
        refine va_get (D := D) (ci := 1) (v := .ref tq) (C := RX2) (T := TX2) (N := 3) hx hb hts hinX2 hown hK.1 hP 0 rfl rfl 1 (by decide) hf15 (fun _ h9 => h9) rfl dX2_readAll_11 ?_
        refine lv_iload_n hx hb dX2_readAll_14 rfl (lv_at hl 2 rfl) ?_
        refine lv_aload_n hx hb dX2_readAll_15 rfl (lv_at hl 0 rfl) ?_
        refine lv_iload_n hx hb dX2_readAll_16 rfl (lv_at hl 2 rfl) ?_
        refine lv_iload_n hx hb dX2_readAll_17 rfl (lv_at hl 1 rfl) ?_
        refine cs_i (va_runV (As := [.int (nI k2), .int r]) (rest := [.int (nI k2), .ref tq]) ⟨hx, hb, hml, hown, hts⟩ (c_X2_foldedBy l D cI h tp tq per rea rn k2 r (by first | assumption | omega) (by first | assumption | omega) (by first | assumption | omega)) (cwV 2 hts gX2_readAll_X2_foldedBy rfl rfl rfl (by decide +kernel) ⟨(Nat.le_of_ble_eq_true rfl), (Nat.le_of_ble_eq_true rfl)⟩) (ro_preV hP hK rfl (q0 := 0) rfl) rfl rfl hl.1 rfl (lv_room (Nat.le_of_ble_eq_true rfl)) dX2_readAll_18 ⟨Nat.zero_le _, Nat.zero_le _⟩) ?_
        refine w_ast hx hb hK hP hD hS 2 0 rfl rfl (k2) rfl (by omega) (by omega) dX2_readAll_21 (fun H locs hP hD hS => ?_)
        have hP : va_P D vwCl [(h, .inr (1, [.ref tp, .ref tq, .int (nI rn)])), (tp, .inl (cI, 4, .inl per)), (tq, .inl (cI, 4, .inl (upd rea k2 (fX2_foldedBy per k2 r))))] H := hP
        have hD : va_D A [(h, .inr (1, [.ref tp, .ref tq, .int (nI rn)])), (tp, .inl (cI, 4, .inl per)), (tq, .inl (cI, 4, .inl (upd rea k2 (fX2_foldedBy per k2 r))))] := hD
        refine lv_iinc (v := nI (k2 + 1)) (lv' := [(2, .int (nI (k2 + 1))), (0, .ref h), (1, .int r)]) hx hb dX2_readAll_22 hl (k := 2) rfl (nI_1 _) (by decide) rfl (fun ls hl => ?_)
        refine lv_goto (tgt := 2) hx hb dX2_readAll_25 (by decide) ?_
        exact ih2 (k2 + 1) (upd rea k2 (fX2_foldedBy per k2 r)) H locs ls (by omega) (by omega) hP hD hS (lv_sub hl [1, 2, 0] rfl) hF
  exact lp2 (rn - 0) 0 rea s.heap _ ls rfl (by omega) hP hD hS (lv_sub hl [1, 2, 0] rfl) hF
def fX2_isNear (per : Nat → Int32) (rea : Nat → Int32) (i : Nat) (r : Int32) (er : Int32) : Int32 := (if (rea i) = (-1) then 0 else (if er < (if ((per i) - (if 0 ≤ ((rea i) - (fX2_foldedBy per i r)) then (rea i) - (fX2_foldedBy per i r) else 0 - ((rea i) - (fX2_foldedBy per i r)))) < (if 0 ≤ ((rea i) - (fX2_foldedBy per i r)) then (rea i) - (fX2_foldedBy per i r) else 0 - ((rea i) - (fX2_foldedBy per i r))) then (per i) - (if 0 ≤ ((rea i) - (fX2_foldedBy per i r)) then (rea i) - (fX2_foldedBy per i r) else 0 - ((rea i) - (fX2_foldedBy per i r))) else if 0 ≤ ((rea i) - (fX2_foldedBy per i r)) then (rea i) - (fX2_foldedBy per i r) else 0 - ((rea i) - (fX2_foldedBy per i r))) then 0 else 1))
abbrev rmX2_isNear : Room := { frames := 1, cells := 0, slots := 0, locals := 23 }
set_option maxHeartbeats 4000000 in
set_option maxRecDepth 100000 in
theorem c_X2_isNear (l : Launch) (D : va_G) (cI : ClassId) (h : Nat) (tp : Nat) (tq : Nat) (per : Nat → Int32) (rea : Nat → Int32) (rn : Nat) (i : Nat) (r : Int32) (er : Int32) (hrn : rn ≤ 4) (hper : ∀ i, i < 4 → ¬ per i = 0) (hi : i < 4) : Met l yX2_isNear wsX2_isNear rmX2_isNear (va_Pc [.ref h, .int (nI i), .int r, .int er] (roP D [(cI, .int)] [(h, .inr (1, [.ref tp, .ref tq, .int (nI rn)])), (tp, .inl (cI, 4, .inl per)), (tq, .inl (cI, 4, .inl rea))])) (vp_Si (fun r9 => r9 = fX2_isNear per rea i r er)) 0 0 (fun _ => False) := by
  generalize hF : fX2_isNear per rea i r er = T
  refine Met.ofW (cc := cX2_isNear) (maxL := 5) (ret := (some .boolean)) (by decide) rfl ?_
  intro p e s m args below meth c s₁ B hml hv
  obtain ⟨rfl, hP, hK⟩ := hv
  have hx := B.exec
  have hb := B.bytes
  have hr := B.returns
  have hts := atoms_spec (ws := wsX2_isNear) B.pre
  have hown : s.vm.findClass RX2 = some m.cls := findClass_of_methodNamed B.named
  have hlocks := B.notSynchronized
  have hinX2 : ∀ w ∈ u_ws RX2 TX2 3, w ∈ wsX2_isNear := by decide +kernel
  have hf15 := hts (.fieldLink RX2 15 "PulseSigns$Rests" "readings" "[I") (by decide +kernel)
  have hml34 := hts (.methodLink RX2 34 Lib.Math.abs.name) (by decide +kernel)
  have hst34 := hts (.static Lib.Math.abs.name) (by decide +kernel)
  have hiM := hts (.initialized "java/lang/Math") (by decide +kernel)
  have hcd34 := hts (.code Lib.Math.abs.name Lib.Math.abs.code 1 (some .int)) (by decide +kernel)
  have hf11 := hts (.fieldLink RX2 11 "PulseSigns$Rests" "periods" "[I") (by decide +kernel)
  have hml40 := hts (.methodLink RX2 40 Lib.Math.min.name) (by decide +kernel)
  have hst40 := hts (.static Lib.Math.min.name) (by decide +kernel)
  have hcd40 := hts (.code Lib.Math.min.name Lib.Math.min.code 2 (some .int)) (by decide +kernel)
  have hl := lv_entry ([.ref h, .int (nI i), .int r, .int er]) (n := 5) (Nat.le_of_ble_eq_true rfl)
  rw [lg_entry_eq]
  generalize (lg_sl ([.ref h, .int (nI i), .int r, .int er]) ++ List.replicate (5 - (lg_sl ([.ref h, .int (nI i), .int r, .int er])).length) Slot.unset).toArray = ls at hl ⊢
  refine w_Q (fun Q hQ => ?_)
  have hl : lv_has ls 5 [(0, .ref h), (1, .int (nI i)), (2, .int r), (3, .int er)] := hl
  rw [fX2_isNear] at hF
  refine lv_aload_n hx hb dX2_isNear_0 rfl (lv_at hl 0 rfl) ?_
  refine va_get (D := D) (ci := 1) (v := .ref tq) (C := RX2) (T := TX2) (N := 3) hx hb hts hinX2 hown hK.1 hP 0 rfl rfl 1 (by decide) hf15 (fun _ h9 => h9) rfl dX2_isNear_1 ?_
  refine lv_iload_n hx hb dX2_isNear_4 rfl (lv_at hl 1 rfl) ?_
  refine w_ald hx hb hK hP 2 0 rfl rfl (i) rfl (by omega) (by omega) dX2_isNear_5 ?_
  refine lv_iconst (v := (-1)) hx hb dX2_isNear_6 (by decide) ?_
  refine lv_icmp_ne (tgt := 12) hx hb dX2_isNear_7 (by decide) (fun c7 => ?_) (fun c7 => ?_)
  · rw [if_neg c7] at hF
    refine lv_aload_n hx hb dX2_isNear_12 rfl (lv_at hl 0 rfl) ?_
    refine va_get (D := D) (ci := 1) (v := .ref tq) (C := RX2) (T := TX2) (N := 3) hx hb hts hinX2 hown hK.1 hP 0 rfl rfl 1 (by decide) hf15 (fun _ h9 => h9) rfl dX2_isNear_13 ?_
    refine lv_iload_n hx hb dX2_isNear_16 rfl (lv_at hl 1 rfl) ?_
    refine w_ald hx hb hK hP 2 0 rfl rfl (i) rfl (by omega) (by omega) dX2_isNear_17 ?_
    refine lv_aload_n hx hb dX2_isNear_18 rfl (lv_at hl 0 rfl) ?_
    refine lv_iload_n hx hb dX2_isNear_19 rfl (lv_at hl 1 rfl) ?_
    refine lv_iload_n hx hb dX2_isNear_20 rfl (lv_at hl 2 rfl) ?_
    refine cs_i (va_runV (As := [.int (nI i), .int r]) (rest := [.int (rea i)]) ⟨hx, hb, hml, hown, hts⟩ (c_X2_foldedBy l D cI h tp tq per rea rn i r (by first | assumption | omega) (by first | assumption | omega) (by first | assumption | omega)) (cwV 2 hts gX2_isNear_X2_foldedBy rfl rfl rfl (by decide +kernel) ⟨(Nat.le_of_ble_eq_true rfl), (Nat.le_of_ble_eq_true rfl)⟩) (ro_preV hP hK rfl (q0 := 0) rfl) rfl rfl hl.1 rfl (lv_room (Nat.le_of_ble_eq_true rfl)) dX2_isNear_21 ⟨Nat.zero_le _, Nat.zero_le _⟩) ?_
    refine lv_isub hx hb dX2_isNear_24 ?_
    refine va_mabs hx hb (by rw [hml]; exact hl.1.symm) hown hml34 hst34 hiM hcd34 (Nat.le_of_ble_eq_true rfl) (Nat.le_of_ble_eq_true rfl) (Nat.zero_le _) (Nat.zero_le _) dX2_isNear_25 ?_
    refine lv_istore (lv' := [(4, .int (if 0 ≤ ((rea i) - (fX2_foldedBy per i r)) then (rea i) - (fX2_foldedBy per i r) else 0 - ((rea i) - (fX2_foldedBy per i r)))), (0, .ref h), (1, .int (nI i)), (2, .int r), (3, .int er)]) hx hb dX2_isNear_28 hl (by decide) rfl (fun ls hl => ?_)
    refine lv_iload hx hb dX2_isNear_30 (lv_at hl 0 rfl) ?_
    refine lv_aload_n hx hb dX2_isNear_32 rfl (lv_at hl 1 rfl) ?_
    refine va_get (D := D) (ci := 1) (v := .ref tp) (C := RX2) (T := TX2) (N := 3) hx hb hts hinX2 hown hK.1 hP 0 rfl rfl 0 (by decide) hf11 (fun _ h9 => h9) rfl dX2_isNear_33 ?_
    refine lv_iload_n hx hb dX2_isNear_36 rfl (lv_at hl 2 rfl) ?_
    refine w_ald hx hb hK hP 1 0 rfl rfl (i) rfl (by omega) (by omega) dX2_isNear_37 ?_
    refine lv_iload hx hb dX2_isNear_38 (lv_at hl 0 rfl) ?_
    refine lv_isub hx hb dX2_isNear_40 ?_
    refine va_mmin hx hb (by rw [hml]; exact hl.1.symm) hown hml40 hst40 hiM hcd40 (Nat.le_of_ble_eq_true rfl) (Nat.le_of_ble_eq_true rfl) (Nat.zero_le _) (Nat.zero_le _) dX2_isNear_41 ?_
    refine lv_iload_n hx hb dX2_isNear_44 rfl (lv_at hl 4 rfl) ?_
    refine lv_icmp_gt (tgt := 52) hx hb dX2_isNear_45 (by decide) (fun c45 => ?_) (fun c45 => ?_)
    · rw [if_pos c45] at hF
      refine lv_iconst (v := 0) hx hb dX2_isNear_52 (by decide) ?_
      subst hQ
      exact W.zret (v := 0) (ty := .boolean) hx hb hr rfl (fun u9 ht hW => ⟨_, rfl, hF, ht⟩) (fun q hq => by cases hq) dX2_isNear_53
    · rw [if_neg c45] at hF
      refine lv_iconst (v := 1) hx hb dX2_isNear_48 (by decide) ?_
      refine lv_goto (tgt := 53) hx hb dX2_isNear_49 (by decide) ?_
      subst hQ
      exact W.zret (v := 1) (ty := .boolean) hx hb hr rfl (fun u9 ht hW => ⟨_, rfl, hF, ht⟩) (fun q hq => by cases hq) dX2_isNear_53
  · rw [if_pos c7] at hF
    refine lv_iconst (v := 0) hx hb dX2_isNear_10 (by decide) ?_
    subst hQ
    exact W.zret (v := 0) (ty := .boolean) hx hb hr rfl (fun u9 ht hW => ⟨_, rfl, hF, ht⟩) (fun q hq => by cases hq) dX2_isNear_11
def F_X2_fits_6 (per : Nat → Int32) (rea : Nat → Int32) (r : Int32) (er : Int32) (mm : Int32) : Nat → Nat → Int32 → Int32
  | 0, k6, x4 => (if x4 < mm then 0 else 1)
  | r6 + 1, k6, x4 => (if (fX2_isNear per rea k6 r er) = 0 then F_X2_fits_6 per rea r er mm r6 (k6 + 1) x4 else F_X2_fits_6 per rea r er mm r6 (k6 + 1) (x4 + 1))
def fX2_fits (per : Nat → Int32) (rea : Nat → Int32) (rn : Nat) (r : Int32) (er : Int32) (mm : Int32) : Int32 := F_X2_fits_6 per rea r er mm (rn - 0) 0 0
abbrev rmX2_fits : Room := { frames := 2, cells := 0, slots := 0, locals := 47 }
set_option maxHeartbeats 4000000 in
set_option maxRecDepth 100000 in
theorem c_X2_fits (l : Launch) (D : va_G) (cI : ClassId) (h : Nat) (tp : Nat) (tq : Nat) (per : Nat → Int32) (rea : Nat → Int32) (rn : Nat) (r : Int32) (er : Int32) (mm : Int32) (hrn : rn ≤ 4) (hper : ∀ i, i < 4 → ¬ per i = 0) : Met l yX2_fits wsX2_fits rmX2_fits (va_Pc [.ref h, .int r, .int er, .int mm] (roP D [(cI, .int)] [(h, .inr (1, [.ref tp, .ref tq, .int (nI rn)])), (tp, .inl (cI, 4, .inl per)), (tq, .inl (cI, 4, .inl rea))])) (vp_Si (fun r9 => r9 = fX2_fits per rea rn r er mm)) 0 0 (fun _ => False) := by
  generalize hF : fX2_fits per rea rn r er mm = T
  refine Met.ofW (cc := cX2_fits) (maxL := 6) (ret := (some .boolean)) (by decide) rfl ?_
  intro p e s m args below meth c s₁ B hml hv
  obtain ⟨rfl, hP, hK⟩ := hv
  have hx := B.exec
  have hb := B.bytes
  have hr := B.returns
  have hts := atoms_spec (ws := wsX2_fits) B.pre
  have hown : s.vm.findClass RX2 = some m.cls := findClass_of_methodNamed B.named
  have hlocks := B.notSynchronized
  have hinX2 : ∀ w ∈ u_ws RX2 TX2 3, w ∈ wsX2_fits := by decide +kernel
  have hf26 := hts (.fieldLink RX2 26 "PulseSigns$Rests" "length" "I") (by decide +kernel)
  have hl := lv_entry ([.ref h, .int r, .int er, .int mm]) (n := 6) (Nat.le_of_ble_eq_true rfl)
  rw [lg_entry_eq]
  generalize (lg_sl ([.ref h, .int r, .int er, .int mm]) ++ List.replicate (6 - (lg_sl ([.ref h, .int r, .int er, .int mm])).length) Slot.unset).toArray = ls at hl ⊢
  refine w_Q (fun Q hQ => ?_)
  have hl : lv_has ls 6 [(0, .ref h), (1, .int r), (2, .int er), (3, .int mm)] := hl
  rw [fX2_fits] at hF
  refine lv_iconst (v := 0) hx hb dX2_fits_0 (by decide) ?_
  refine lv_istore (lv' := [(4, .int 0), (0, .ref h), (1, .int r), (2, .int er), (3, .int mm)]) hx hb dX2_fits_1 hl (by decide) rfl (fun ls hl => ?_)
  refine lv_iconst (v := 0) hx hb dX2_fits_3 (by decide) ?_
  refine lv_istore (lv' := [(5, .int 0), (4, .int 0), (0, .ref h), (1, .int r), (2, .int er), (3, .int mm)]) hx hb dX2_fits_4 hl (by decide) rfl (fun ls hl => ?_)
  have lp6 : ∀ (r6 k6 : Nat) (x4 : Int32) (ls : Array Slot), r6 = rn - k6 → k6 ≤ rn + 1 → lv_has ls 6 [(0, .ref h), (1, .int r), (2, .int er), (3, .int mm), (4, .int x4), (5, .int (nI k6))] → F_X2_fits_6 per rea r er mm r6 k6 x4 = T → W p l e (headSpec wsX2_fits rmX2_fits).room s m ([.ref h, .int r, .int er, .int mm] : List Value).toArray below meth c s.heap [] 0 0 Q (F0 m 6 ls []) := by
    intro r6
    induction r6 with
    | zero =>
      intro k6 x4 ls hi6_0 hi6_1 hl hF
      rw [F_X2_fits_6] at hF
      refine lv_iload hx hb dX2_fits_6 (lv_at hl 5 rfl) ?_
      refine lv_aload_n hx hb dX2_fits_8 rfl (lv_at hl 0 rfl) ?_
      refine va_get (D := D) (ci := 1) (v := .int (nI rn)) (C := RX2) (T := TX2) (N := 3) hx hb hts hinX2 hown hK.1 hP 0 rfl rfl 2 (by decide) hf26 (fun _ h9 => h9) rfl dX2_fits_9 ?_
      refine lv_icmp_ge (tgt := 35) hx hb dX2_fits_12 (by decide) (fun c12 => ?_) (fun c12 => ?_)
      · skip
        refine lv_iload hx hb dX2_fits_35 (lv_at hl 4 rfl) ?_
        refine lv_iload_n hx hb dX2_fits_37 rfl (lv_at hl 3 rfl) ?_
        refine lv_icmp_lt (tgt := 45) hx hb dX2_fits_38 (by decide) (fun c38 => ?_) (fun c38 => ?_)
        · rw [if_pos c38] at hF
          refine lv_iconst (v := 0) hx hb dX2_fits_45 (by decide) ?_
          subst hQ
          exact W.zret (v := 0) (ty := .boolean) hx hb hr rfl (fun u9 ht hW => ⟨_, rfl, hF, ht⟩) (fun q hq => by cases hq) dX2_fits_46
        · rw [if_neg c38] at hF
          refine lv_iconst (v := 1) hx hb dX2_fits_41 (by decide) ?_
          refine lv_goto (tgt := 46) hx hb dX2_fits_42 (by decide) ?_
          subst hQ
          exact W.zret (v := 1) (ty := .boolean) hx hb hr rfl (fun u9 ht hW => ⟨_, rfl, hF, ht⟩) (fun q hq => by cases hq) dX2_fits_46
      · exact False.elim (c12 (nI_le (a := rn) (b := k6) (by omega) (by omega)))
    | succ r6 ih6 =>
      intro k6 x4 ls hi6_0 hi6_1 hl hF
      rw [F_X2_fits_6] at hF
      refine lv_iload hx hb dX2_fits_6 (lv_at hl 5 rfl) ?_
      refine lv_aload_n hx hb dX2_fits_8 rfl (lv_at hl 0 rfl) ?_
      refine va_get (D := D) (ci := 1) (v := .int (nI rn)) (C := RX2) (T := TX2) (N := 3) hx hb hts hinX2 hown hK.1 hP 0 rfl rfl 2 (by decide) hf26 (fun _ h9 => h9) rfl dX2_fits_9 ?_
      refine lv_icmp_ge (tgt := 35) hx hb dX2_fits_12 (by decide) (fun c12 => ?_) (fun c12 => ?_)
      · exact False.elim (nI_ge (a := k6) (b := rn) (by omega) (by omega) c12)
      · skip
        refine lv_aload_n hx hb dX2_fits_15 rfl (lv_at hl 0 rfl) ?_
        refine lv_iload hx hb dX2_fits_16 (lv_at hl 5 rfl) ?_
        refine lv_iload_n hx hb dX2_fits_18 rfl (lv_at hl 1 rfl) ?_
        refine lv_iload_n hx hb dX2_fits_19 rfl (lv_at hl 2 rfl) ?_
        refine cs_i (va_runV (As := [.int (nI k6), .int r, .int er]) (rest := []) ⟨hx, hb, hml, hown, hts⟩ (c_X2_isNear l D cI h tp tq per rea rn k6 r er (by first | assumption | omega) (by first | assumption | omega) (by first | assumption | omega)) (cwV 3 hts gX2_fits_X2_isNear rfl rfl rfl (by decide +kernel) ⟨(Nat.le_of_ble_eq_true rfl), (Nat.le_of_ble_eq_true rfl)⟩) (ro_preV hP hK rfl (q0 := 0) rfl) rfl rfl hl.1 rfl (lv_room (Nat.le_of_ble_eq_true rfl)) dX2_fits_20 ⟨Nat.zero_le _, Nat.zero_le _⟩) ?_
        refine lv_if_eq (tgt := 29) hx hb dX2_fits_23 (by decide) (fun c23 => ?_) (fun c23 => ?_)
        · rw [if_pos c23] at hF
          refine lv_iinc (v := nI (k6 + 1)) (lv' := [(5, .int (nI (k6 + 1))), (0, .ref h), (1, .int r), (2, .int er), (3, .int mm), (4, .int x4)]) hx hb dX2_fits_29 hl (k := 5) rfl (nI_1 _) (by decide) rfl (fun ls hl => ?_)
          refine lv_goto (tgt := 6) hx hb dX2_fits_32 (by decide) ?_
          exact ih6 (k6 + 1) x4 ls (by omega) (by omega)  (lv_sub hl [1, 2, 3, 4, 5, 0] rfl) hF
        · rw [if_neg c23] at hF
          refine lv_iinc (v := x4 + 1) (lv' := [(4, .int (x4 + 1)), (0, .ref h), (1, .int r), (2, .int er), (3, .int mm), (5, .int (nI k6))]) hx hb dX2_fits_26 hl (k := 4) rfl rfl (by decide) rfl (fun ls hl => ?_)
          refine lv_iinc (v := nI (k6 + 1)) (lv' := [(5, .int (nI (k6 + 1))), (4, .int (x4 + 1)), (0, .ref h), (1, .int r), (2, .int er), (3, .int mm)]) hx hb dX2_fits_29 hl (k := 5) rfl (nI_1 _) (by decide) rfl (fun ls hl => ?_)
          refine lv_goto (tgt := 6) hx hb dX2_fits_32 (by decide) ?_
          exact ih6 (k6 + 1) (x4 + 1) ls (by omega) (by omega)  (lv_sub hl [2, 3, 4, 5, 1, 0] rfl) hF
  exact lp6 (rn - 0) 0 0 ls rfl (by omega)  (lv_sub hl [2, 3, 4, 5, 1, 0] rfl) hF
def F_X2_fitting_6 (per : Nat → Int32) (rea : Nat → Int32) (rn : Nat) (er : Int32) (mm : Int32) : Nat → Nat → Int32 → Int32
  | 0, k6, x4 => x4
  | r6 + 1, k6, x4 => (if (fX2_fits per rea rn (nI k6) er mm) = 0 then F_X2_fitting_6 per rea rn er mm r6 (k6 + 1) x4 else F_X2_fitting_6 per rea rn er mm r6 (k6 + 1) (x4 + 1))
def fX2_fitting (per : Nat → Int32) (rea : Nat → Int32) (rn : Nat) (er : Int32) (mm : Int32) (sp : Nat) : Int32 := F_X2_fitting_6 per rea rn er mm (sp - 0) 0 0
abbrev rmX2_fitting : Room := { frames := 3, cells := 0, slots := 0, locals := 72 }
set_option maxHeartbeats 4000000 in
set_option maxRecDepth 100000 in
theorem c_X2_fitting (l : Launch) (D : va_G) (cI : ClassId) (h : Nat) (tp : Nat) (tq : Nat) (per : Nat → Int32) (rea : Nat → Int32) (rn : Nat) (er : Int32) (mm : Int32) (sp : Nat) (hrn : rn ≤ 4) (hper : ∀ i, i < 4 → ¬ per i = 0) (hsp : sp ≤ 5000) : Met l yX2_fitting wsX2_fitting rmX2_fitting (va_Pc [.ref h, .int er, .int mm, .int (nI sp)] (roP D [(cI, .int)] [(h, .inr (1, [.ref tp, .ref tq, .int (nI rn)])), (tp, .inl (cI, 4, .inl per)), (tq, .inl (cI, 4, .inl rea))])) (vp_Si (fun r9 => r9 = fX2_fitting per rea rn er mm sp)) 0 0 (fun _ => False) := by
  generalize hF : fX2_fitting per rea rn er mm sp = T
  refine Met.ofW (cc := cX2_fitting) (maxL := 6) (ret := (some .int)) (by decide) rfl ?_
  intro p e s m args below meth c s₁ B hml hv
  obtain ⟨rfl, hP, hK⟩ := hv
  have hx := B.exec
  have hb := B.bytes
  have hr := B.returns
  have hts := atoms_spec (ws := wsX2_fitting) B.pre
  have hown : s.vm.findClass RX2 = some m.cls := findClass_of_methodNamed B.named
  have hlocks := B.notSynchronized
  have hl := lv_entry ([.ref h, .int er, .int mm, .int (nI sp)]) (n := 6) (Nat.le_of_ble_eq_true rfl)
  rw [lg_entry_eq]
  generalize (lg_sl ([.ref h, .int er, .int mm, .int (nI sp)]) ++ List.replicate (6 - (lg_sl ([.ref h, .int er, .int mm, .int (nI sp)])).length) Slot.unset).toArray = ls at hl ⊢
  refine w_Q (fun Q hQ => ?_)
  have hl : lv_has ls 6 [(0, .ref h), (1, .int er), (2, .int mm), (3, .int (nI sp))] := hl
  rw [fX2_fitting] at hF
  refine lv_iconst (v := 0) hx hb dX2_fitting_0 (by decide) ?_
  refine lv_istore (lv' := [(4, .int 0), (0, .ref h), (1, .int er), (2, .int mm), (3, .int (nI sp))]) hx hb dX2_fitting_1 hl (by decide) rfl (fun ls hl => ?_)
  refine lv_iconst (v := 0) hx hb dX2_fitting_3 (by decide) ?_
  refine lv_istore (lv' := [(5, .int 0), (4, .int 0), (0, .ref h), (1, .int er), (2, .int mm), (3, .int (nI sp))]) hx hb dX2_fitting_4 hl (by decide) rfl (fun ls hl => ?_)
  have lp6 : ∀ (r6 k6 : Nat) (x4 : Int32) (ls : Array Slot), r6 = sp - k6 → k6 ≤ sp + 1 → lv_has ls 6 [(0, .ref h), (1, .int er), (2, .int mm), (3, .int (nI sp)), (4, .int x4), (5, .int (nI k6))] → F_X2_fitting_6 per rea rn er mm r6 k6 x4 = T → W p l e (headSpec wsX2_fitting rmX2_fitting).room s m ([.ref h, .int er, .int mm, .int (nI sp)] : List Value).toArray below meth c s.heap [] 0 0 Q (F0 m 6 ls []) := by
    intro r6
    induction r6 with
    | zero =>
      intro k6 x4 ls hi6_0 hi6_1 hl hF
      rw [F_X2_fitting_6] at hF
      refine lv_iload hx hb dX2_fitting_6 (lv_at hl 5 rfl) ?_
      refine lv_iload_n hx hb dX2_fitting_8 rfl (lv_at hl 3 rfl) ?_
      refine lv_icmp_ge (tgt := 32) hx hb dX2_fitting_9 (by decide) (fun c9 => ?_) (fun c9 => ?_)
      · skip
        refine lv_iload hx hb dX2_fitting_32 (lv_at hl 4 rfl) ?_
        subst hQ
        exact W.iret (v := x4) hx hb hr (fun u9 ht hW => ⟨_, rfl, hF, ht⟩) (fun q hq => by cases hq) dX2_fitting_34
      · exact False.elim (c9 (nI_le (a := sp) (b := k6) (by omega) (by omega)))
    | succ r6 ih6 =>
      intro k6 x4 ls hi6_0 hi6_1 hl hF
      rw [F_X2_fitting_6] at hF
      refine lv_iload hx hb dX2_fitting_6 (lv_at hl 5 rfl) ?_
      refine lv_iload_n hx hb dX2_fitting_8 rfl (lv_at hl 3 rfl) ?_
      refine lv_icmp_ge (tgt := 32) hx hb dX2_fitting_9 (by decide) (fun c9 => ?_) (fun c9 => ?_)
      · exact False.elim (nI_ge (a := k6) (b := sp) (by omega) (by omega) c9)
      · skip
        refine lv_aload_n hx hb dX2_fitting_12 rfl (lv_at hl 0 rfl) ?_
        refine lv_iload hx hb dX2_fitting_13 (lv_at hl 5 rfl) ?_
        refine lv_iload_n hx hb dX2_fitting_15 rfl (lv_at hl 1 rfl) ?_
        refine lv_iload_n hx hb dX2_fitting_16 rfl (lv_at hl 2 rfl) ?_
        refine cs_i (va_runV (As := [.int (nI k6), .int er, .int mm]) (rest := []) ⟨hx, hb, hml, hown, hts⟩ (c_X2_fits l D cI h tp tq per rea rn (nI k6) er mm (by first | assumption | omega) (by first | assumption | omega)) (cwV 3 hts gX2_fitting_X2_fits rfl rfl rfl (by decide +kernel) ⟨(Nat.le_of_ble_eq_true rfl), (Nat.le_of_ble_eq_true rfl)⟩) (ro_preV hP hK rfl (q0 := 0) rfl) rfl rfl hl.1 rfl (lv_room (Nat.le_of_ble_eq_true rfl)) dX2_fitting_17 ⟨Nat.zero_le _, Nat.zero_le _⟩) ?_
        refine lv_if_eq (tgt := 26) hx hb dX2_fitting_20 (by decide) (fun c20 => ?_) (fun c20 => ?_)
        · rw [if_pos c20] at hF
          refine lv_iinc (v := nI (k6 + 1)) (lv' := [(5, .int (nI (k6 + 1))), (0, .ref h), (1, .int er), (2, .int mm), (3, .int (nI sp)), (4, .int x4)]) hx hb dX2_fitting_26 hl (k := 5) rfl (nI_1 _) (by decide) rfl (fun ls hl => ?_)
          refine lv_goto (tgt := 6) hx hb dX2_fitting_29 (by decide) ?_
          exact ih6 (k6 + 1) x4 ls (by omega) (by omega)  (lv_sub hl [1, 2, 3, 4, 5, 0] rfl) hF
        · rw [if_neg c20] at hF
          refine lv_iinc (v := x4 + 1) (lv' := [(4, .int (x4 + 1)), (0, .ref h), (1, .int er), (2, .int mm), (3, .int (nI sp)), (5, .int (nI k6))]) hx hb dX2_fitting_23 hl (k := 4) rfl rfl (by decide) rfl (fun ls hl => ?_)
          refine lv_iinc (v := nI (k6 + 1)) (lv' := [(5, .int (nI (k6 + 1))), (4, .int (x4 + 1)), (0, .ref h), (1, .int er), (2, .int mm), (3, .int (nI sp))]) hx hb dX2_fitting_26 hl (k := 5) rfl (nI_1 _) (by decide) rfl (fun ls hl => ?_)
          refine lv_goto (tgt := 6) hx hb dX2_fitting_29 (by decide) ?_
          exact ih6 (k6 + 1) (x4 + 1) ls (by omega) (by omega)  (lv_sub hl [2, 3, 4, 5, 1, 0] rfl) hF
  exact lp6 (sp - 0) 0 0 ls rfl (by omega)  (lv_sub hl [2, 3, 4, 5, 1, 0] rfl) hF
def F_X2_fittingAt_6 (per : Nat → Int32) (rea : Nat → Int32) (rn : Nat) (er : Int32) (mm : Int32) (j : Int32) : Nat → Nat → Int32 → Int32
  | 0, k6, x5 => (-1)
  | r6 + 1, k6, x5 => (if (fX2_fits per rea rn (nI k6) er mm) = 0 then F_X2_fittingAt_6 per rea rn er mm j r6 (k6 + 1) x5 else (if x5 = j then nI k6 else F_X2_fittingAt_6 per rea rn er mm j r6 (k6 + 1) (x5 + 1)))
def fX2_fittingAt (per : Nat → Int32) (rea : Nat → Int32) (rn : Nat) (er : Int32) (mm : Int32) (sp : Nat) (j : Int32) : Int32 := F_X2_fittingAt_6 per rea rn er mm j (sp - 0) 0 0
abbrev rmX2_fittingAt : Room := { frames := 3, cells := 0, slots := 0, locals := 72 }
set_option maxHeartbeats 4000000 in
set_option maxRecDepth 100000 in
theorem c_X2_fittingAt (l : Launch) (D : va_G) (cI : ClassId) (h : Nat) (tp : Nat) (tq : Nat) (per : Nat → Int32) (rea : Nat → Int32) (rn : Nat) (er : Int32) (mm : Int32) (sp : Nat) (j : Int32) (hrn : rn ≤ 4) (hper : ∀ i, i < 4 → ¬ per i = 0) (hsp : sp ≤ 5000) : Met l yX2_fittingAt wsX2_fittingAt rmX2_fittingAt (va_Pc [.ref h, .int er, .int mm, .int (nI sp), .int j] (roP D [(cI, .int)] [(h, .inr (1, [.ref tp, .ref tq, .int (nI rn)])), (tp, .inl (cI, 4, .inl per)), (tq, .inl (cI, 4, .inl rea))])) (vp_Si (fun r9 => r9 = fX2_fittingAt per rea rn er mm sp j)) 0 0 (fun _ => False) := by
  generalize hF : fX2_fittingAt per rea rn er mm sp j = T
  refine Met.ofW (cc := cX2_fittingAt) (maxL := 7) (ret := (some .int)) (by decide) rfl ?_
  intro p e s m args below meth c s₁ B hml hv
  obtain ⟨rfl, hP, hK⟩ := hv
  have hx := B.exec
  have hb := B.bytes
  have hr := B.returns
  have hts := atoms_spec (ws := wsX2_fittingAt) B.pre
  have hown : s.vm.findClass RX2 = some m.cls := findClass_of_methodNamed B.named
  have hlocks := B.notSynchronized
  have hl := lv_entry ([.ref h, .int er, .int mm, .int (nI sp), .int j]) (n := 7) (Nat.le_of_ble_eq_true rfl)
  rw [lg_entry_eq]
  generalize (lg_sl ([.ref h, .int er, .int mm, .int (nI sp), .int j]) ++ List.replicate (7 - (lg_sl ([.ref h, .int er, .int mm, .int (nI sp), .int j])).length) Slot.unset).toArray = ls at hl ⊢
  refine w_Q (fun Q hQ => ?_)
  have hl : lv_has ls 7 [(0, .ref h), (1, .int er), (2, .int mm), (3, .int (nI sp)), (4, .int j)] := hl
  rw [fX2_fittingAt] at hF
  refine lv_iconst (v := 0) hx hb dX2_fittingAt_0 (by decide) ?_
  refine lv_istore (lv' := [(5, .int 0), (0, .ref h), (1, .int er), (2, .int mm), (3, .int (nI sp)), (4, .int j)]) hx hb dX2_fittingAt_1 hl (by decide) rfl (fun ls hl => ?_)
  refine lv_iconst (v := 0) hx hb dX2_fittingAt_3 (by decide) ?_
  refine lv_istore (lv' := [(6, .int 0), (5, .int 0), (0, .ref h), (1, .int er), (2, .int mm), (3, .int (nI sp)), (4, .int j)]) hx hb dX2_fittingAt_4 hl (by decide) rfl (fun ls hl => ?_)
  have lp6 : ∀ (r6 k6 : Nat) (x5 : Int32) (ls : Array Slot), r6 = sp - k6 → k6 ≤ sp + 1 → lv_has ls 7 [(0, .ref h), (1, .int er), (2, .int mm), (3, .int (nI sp)), (4, .int j), (5, .int x5), (6, .int (nI k6))] → F_X2_fittingAt_6 per rea rn er mm j r6 k6 x5 = T → W p l e (headSpec wsX2_fittingAt rmX2_fittingAt).room s m ([.ref h, .int er, .int mm, .int (nI sp), .int j] : List Value).toArray below meth c s.heap [] 0 0 Q (F0 m 6 ls []) := by
    intro r6
    induction r6 with
    | zero =>
      intro k6 x5 ls hi6_0 hi6_1 hl hF
      rw [F_X2_fittingAt_6] at hF
      refine lv_iload hx hb dX2_fittingAt_6 (lv_at hl 6 rfl) ?_
      refine lv_iload_n hx hb dX2_fittingAt_8 rfl (lv_at hl 3 rfl) ?_
      refine lv_icmp_ge (tgt := 42) hx hb dX2_fittingAt_9 (by decide) (fun c9 => ?_) (fun c9 => ?_)
      · skip
        refine lv_iconst (v := (-1)) hx hb dX2_fittingAt_42 (by decide) ?_
        subst hQ
        exact W.iret (v := (-1)) hx hb hr (fun u9 ht hW => ⟨_, rfl, hF, ht⟩) (fun q hq => by cases hq) dX2_fittingAt_43
      · exact False.elim (c9 (nI_le (a := sp) (b := k6) (by omega) (by omega)))
    | succ r6 ih6 =>
      intro k6 x5 ls hi6_0 hi6_1 hl hF
      rw [F_X2_fittingAt_6] at hF
      refine lv_iload hx hb dX2_fittingAt_6 (lv_at hl 6 rfl) ?_
      refine lv_iload_n hx hb dX2_fittingAt_8 rfl (lv_at hl 3 rfl) ?_
      refine lv_icmp_ge (tgt := 42) hx hb dX2_fittingAt_9 (by decide) (fun c9 => ?_) (fun c9 => ?_)
      · exact False.elim (nI_ge (a := k6) (b := sp) (by omega) (by omega) c9)
      · skip
        refine lv_aload_n hx hb dX2_fittingAt_12 rfl (lv_at hl 0 rfl) ?_
        refine lv_iload hx hb dX2_fittingAt_13 (lv_at hl 6 rfl) ?_
        refine lv_iload_n hx hb dX2_fittingAt_15 rfl (lv_at hl 1 rfl) ?_
        refine lv_iload_n hx hb dX2_fittingAt_16 rfl (lv_at hl 2 rfl) ?_
        refine cs_i (va_runV (As := [.int (nI k6), .int er, .int mm]) (rest := []) ⟨hx, hb, hml, hown, hts⟩ (c_X2_fits l D cI h tp tq per rea rn (nI k6) er mm (by first | assumption | omega) (by first | assumption | omega)) (cwV 3 hts gX2_fittingAt_X2_fits rfl rfl rfl (by decide +kernel) ⟨(Nat.le_of_ble_eq_true rfl), (Nat.le_of_ble_eq_true rfl)⟩) (ro_preV hP hK rfl (q0 := 0) rfl) rfl rfl hl.1 rfl (lv_room (Nat.le_of_ble_eq_true rfl)) dX2_fittingAt_17 ⟨Nat.zero_le _, Nat.zero_le _⟩) ?_
        refine lv_if_eq (tgt := 36) hx hb dX2_fittingAt_20 (by decide) (fun c20 => ?_) (fun c20 => ?_)
        · rw [if_pos c20] at hF
          refine lv_iinc (v := nI (k6 + 1)) (lv' := [(6, .int (nI (k6 + 1))), (0, .ref h), (1, .int er), (2, .int mm), (3, .int (nI sp)), (4, .int j), (5, .int x5)]) hx hb dX2_fittingAt_36 hl (k := 6) rfl (nI_1 _) (by decide) rfl (fun ls hl => ?_)
          refine lv_goto (tgt := 6) hx hb dX2_fittingAt_39 (by decide) ?_
          exact ih6 (k6 + 1) x5 ls (by omega) (by omega)  (lv_sub hl [1, 2, 3, 4, 5, 6, 0] rfl) hF
        · rw [if_neg c20] at hF
          refine lv_iload hx hb dX2_fittingAt_23 (lv_at hl 5 rfl) ?_
          refine lv_iload hx hb dX2_fittingAt_25 (lv_at hl 4 rfl) ?_
          refine lv_icmp_ne (tgt := 33) hx hb dX2_fittingAt_27 (by decide) (fun c27 => ?_) (fun c27 => ?_)
          · rw [if_neg c27] at hF
            refine lv_iinc (v := x5 + 1) (lv' := [(5, .int (x5 + 1)), (0, .ref h), (1, .int er), (2, .int mm), (3, .int (nI sp)), (4, .int j), (6, .int (nI k6))]) hx hb dX2_fittingAt_33 hl (k := 5) rfl rfl (by decide) rfl (fun ls hl => ?_)
            refine lv_iinc (v := nI (k6 + 1)) (lv' := [(6, .int (nI (k6 + 1))), (5, .int (x5 + 1)), (0, .ref h), (1, .int er), (2, .int mm), (3, .int (nI sp)), (4, .int j)]) hx hb dX2_fittingAt_36 hl (k := 6) rfl (nI_1 _) (by decide) rfl (fun ls hl => ?_)
            refine lv_goto (tgt := 6) hx hb dX2_fittingAt_39 (by decide) ?_
            exact ih6 (k6 + 1) (x5 + 1) ls (by omega) (by omega)  (lv_sub hl [2, 3, 4, 5, 6, 1, 0] rfl) hF
          · rw [if_pos c27] at hF
            refine lv_iload hx hb dX2_fittingAt_30 (lv_at hl 6 rfl) ?_
            subst hQ
            exact W.iret (v := nI k6) hx hb hr (fun u9 ht hW => ⟨_, rfl, hF, ht⟩) (fun q hq => by cases hq) dX2_fittingAt_32
  exact lp6 (sp - 0) 0 0 ls rfl (by omega)  (lv_sub hl [2, 3, 4, 5, 6, 1, 0] rfl) hF
def F_X2_leastCommon_4 (per : Nat → Int32) : Nat → Nat → Int64 → Int32
  | 0, k4, x1 => x1.toInt32
  | r4 + 1, k4, x1 => F_X2_leastCommon_4 per r4 (k4 + 1) (x1 * (((per k4).toInt64) / (fX6_commonDivisor x1 ((per k4).toInt64))))
def fX2_leastCommon (per : Nat → Int32) (rn : Nat) : Int32 := F_X2_leastCommon_4 per (rn - 0) 0 1
abbrev rmX2_leastCommon : Room := { frames := 1, cells := 0, slots := 0, locals := 30 }
set_option maxHeartbeats 4000000 in
set_option maxRecDepth 100000 in
theorem c_X2_leastCommon (l : Launch) (D : va_G) (cI : ClassId) (h : Nat) (tp : Nat) (tq : Nat) (per : Nat → Int32) (rea : Nat → Int32) (rn : Nat) (hrn : rn ≤ 4) (hper : ∀ i, i < 4 → ¬ per i = 0) (hdv : ∀ (x : Int64) (i : Nat), i < 4 → ¬ fX6_commonDivisor x (per i).toInt64 = 0) : Met l yX2_leastCommon wsX2_leastCommon rmX2_leastCommon (va_Pc [.ref h] (roP D [(cI, .int)] [(h, .inr (1, [.ref tp, .ref tq, .int (nI rn)])), (tp, .inl (cI, 4, .inl per)), (tq, .inl (cI, 4, .inl rea))])) (vp_Si (fun r9 => r9 = fX2_leastCommon per rn)) 0 0 (fun _ => False) := by
  generalize hF : fX2_leastCommon per rn = T
  refine Met.ofW (cc := cX2_leastCommon) (maxL := 4) (ret := (some .int)) (by decide) rfl ?_
  intro p e s m args below meth c s₁ B hml hv
  obtain ⟨rfl, hP, hK⟩ := hv
  have hx := B.exec
  have hb := B.bytes
  have hr := B.returns
  have hts := atoms_spec (ws := wsX2_leastCommon) B.pre
  have hown : s.vm.findClass RX2 = some m.cls := findClass_of_methodNamed B.named
  have hlocks := B.notSynchronized
  have hinX2 : ∀ w ∈ u_ws RX2 TX2 3, w ∈ wsX2_leastCommon := by decide +kernel
  have hf26 := hts (.fieldLink RX2 26 "PulseSigns$Rests" "length" "I") (by decide +kernel)
  have hf11 := hts (.fieldLink RX2 11 "PulseSigns$Rests" "periods" "[I") (by decide +kernel)
  have hiniX6 := hts (.initialized RX6) (by decide +kernel)
  have hst_X6_commonDivisor := hts (.static yX6_commonDivisor) (by decide +kernel)
  have hl := lv_entry ([.ref h]) (n := 4) (Nat.le_of_ble_eq_true rfl)
  rw [lg_entry_eq]
  generalize (lg_sl ([.ref h]) ++ List.replicate (4 - (lg_sl ([.ref h])).length) Slot.unset).toArray = ls at hl ⊢
  refine w_Q (fun Q hQ => ?_)
  have hl : lv_has ls 4 [(0, .ref h)] := hl
  rw [fX2_leastCommon] at hF
  refine lv_lconst (v := 1) hx hb dX2_leastCommon_0 (by decide) ?_
  refine lv_lstore_n (lv' := [(1, .long 1), (0, .ref h)]) hx hb dX2_leastCommon_1 rfl hl (by decide) rfl (fun ls hl => ?_)
  refine lv_iconst (v := 0) hx hb dX2_leastCommon_2 (by decide) ?_
  refine lv_istore_n (lv' := [(3, .int 0), (1, .long 1), (0, .ref h)]) hx hb dX2_leastCommon_3 rfl hl (by decide) rfl (fun ls hl => ?_)
  have lp4 : ∀ (r4 k4 : Nat) (x1 : Int64) (ls : Array Slot), r4 = rn - k4 → k4 ≤ rn + 1 → lv_has ls 4 [(0, .ref h), (1, .long x1), (3, .int (nI k4))] → F_X2_leastCommon_4 per r4 k4 x1 = T → W p l e (headSpec wsX2_leastCommon rmX2_leastCommon).room s m ([.ref h] : List Value).toArray below meth c s.heap [] 0 0 Q (F0 m 4 ls []) := by
    intro r4
    induction r4 with
    | zero =>
      intro k4 x1 ls hi4_0 hi4_1 hl hF
      rw [F_X2_leastCommon_4] at hF
      refine lv_iload_n hx hb dX2_leastCommon_4 rfl (lv_at hl 2 rfl) ?_
      refine lv_aload_n hx hb dX2_leastCommon_5 rfl (lv_at hl 0 rfl) ?_
      refine va_get (D := D) (ci := 1) (v := .int (nI rn)) (C := RX2) (T := TX2) (N := 3) hx hb hts hinX2 hown hK.1 hP 0 rfl rfl 2 (by decide) hf26 (fun _ h9 => h9) rfl dX2_leastCommon_6 ?_
      refine lv_icmp_ge (tgt := 40) hx hb dX2_leastCommon_9 (by decide) (fun c9 => ?_) (fun c9 => ?_)
      · skip
        refine lv_lload_n hx hb dX2_leastCommon_40 rfl (lv_at hl 1 rfl) ?_
        refine lv_l2i hx hb dX2_leastCommon_41 rfl ?_
        subst hQ
        exact W.iret (v := x1.toInt32) hx hb hr (fun u9 ht hW => ⟨_, rfl, hF, ht⟩) (fun q hq => by cases hq) dX2_leastCommon_42
      · exact False.elim (c9 (nI_le (a := rn) (b := k4) (by omega) (by omega)))
    | succ r4 ih4 =>
      intro k4 x1 ls hi4_0 hi4_1 hl hF
      rw [F_X2_leastCommon_4] at hF
      refine lv_iload_n hx hb dX2_leastCommon_4 rfl (lv_at hl 2 rfl) ?_
      refine lv_aload_n hx hb dX2_leastCommon_5 rfl (lv_at hl 0 rfl) ?_
      refine va_get (D := D) (ci := 1) (v := .int (nI rn)) (C := RX2) (T := TX2) (N := 3) hx hb hts hinX2 hown hK.1 hP 0 rfl rfl 2 (by decide) hf26 (fun _ h9 => h9) rfl dX2_leastCommon_6 ?_
      refine lv_icmp_ge (tgt := 40) hx hb dX2_leastCommon_9 (by decide) (fun c9 => ?_) (fun c9 => ?_)
      · exact False.elim (nI_ge (a := k4) (b := rn) (by omega) (by omega) c9)
      · skip
        refine lv_lload_n hx hb dX2_leastCommon_12 rfl (lv_at hl 1 rfl) ?_
        refine lv_aload_n hx hb dX2_leastCommon_13 rfl (lv_at hl 0 rfl) ?_
        refine va_get (D := D) (ci := 1) (v := .ref tp) (C := RX2) (T := TX2) (N := 3) hx hb hts hinX2 hown hK.1 hP 0 rfl rfl 0 (by decide) hf11 (fun _ h9 => h9) rfl dX2_leastCommon_14 ?_
        refine lv_iload_n hx hb dX2_leastCommon_17 rfl (lv_at hl 2 rfl) ?_
        refine w_ald hx hb hK hP 1 0 rfl rfl (k4) rfl (by omega) (by omega) dX2_leastCommon_18 ?_
        refine lv_i2l hx hb dX2_leastCommon_19 rfl ?_
        refine lv_lload_n hx hb dX2_leastCommon_20 rfl (lv_at hl 1 rfl) ?_
        refine lv_aload_n hx hb dX2_leastCommon_21 rfl (lv_at hl 0 rfl) ?_
        refine va_get (D := D) (ci := 1) (v := .ref tp) (C := RX2) (T := TX2) (N := 3) hx hb hts hinX2 hown hK.1 hP 0 rfl rfl 0 (by decide) hf11 (fun _ h9 => h9) rfl dX2_leastCommon_22 ?_
        refine lv_iload_n hx hb dX2_leastCommon_25 rfl (lv_at hl 2 rfl) ?_
        refine w_ald hx hb hK hP 1 0 rfl rfl (k4) rfl (by omega) (by omega) dX2_leastCommon_26 ?_
        refine lv_i2l hx hb dX2_leastCommon_27 rfl ?_
        have hPc := hP.sub (ws' := []) [] rfl
        refine cs_l (va_runSN (As := [.long x1, .long ((per k4).toInt64)]) (rest := [.long ((per k4).toInt64), .long x1]) ⟨hx, hb, hml, hown, hts⟩ (c_X6_commonDivisor l D cI x1 ((per k4).toInt64) ) ⟨va_cnB 2 hts gX2_leastCommon_X6_commonDivisor_n49 rfl rfl rfl hK.2.2.2.2.2.2.2.1 hiniX6 (by decide +kernel) ⟨(Nat.le_of_ble_eq_true rfl), (Nat.le_of_ble_eq_true rfl)⟩, hst_X6_commonDivisor, trivial⟩ (ro_pre hPc hK) rfl rfl hl.1 rfl (lv_room (Nat.le_of_ble_eq_true rfl)) dX2_leastCommon_28 ⟨Nat.zero_le _, Nat.zero_le _⟩) ?_
        refine lv_ldiv hx hb dX2_leastCommon_31 (hdv _ _ (by omega)) ?_
        refine lv_lmul hx hb dX2_leastCommon_32 ?_
        refine lv_lstore_n (lv' := [(1, .long (x1 * (((per k4).toInt64) / (fX6_commonDivisor x1 ((per k4).toInt64))))), (0, .ref h), (3, .int (nI k4))]) hx hb dX2_leastCommon_33 rfl hl (by decide) rfl (fun ls hl => ?_)
        refine lv_iinc (v := nI (k4 + 1)) (lv' := [(3, .int (nI (k4 + 1))), (1, .long (x1 * (((per k4).toInt64) / (fX6_commonDivisor x1 ((per k4).toInt64))))), (0, .ref h)]) hx hb dX2_leastCommon_34 hl (k := 2) rfl (nI_1 _) (by decide) rfl (fun ls hl => ?_)
        refine lv_goto (tgt := 4) hx hb dX2_leastCommon_37 (by decide) ?_
        exact ih4 (k4 + 1) (x1 * (((per k4).toInt64) / (fX6_commonDivisor x1 ((per k4).toInt64)))) ls (by omega) (by omega)  (lv_sub hl [2, 1, 0] rfl) hF
  exact lp4 (rn - 0) 0 1 ls rfl (by omega)  (lv_sub hl [2, 1, 0] rfl) hF
def F_X2_unseen_7 (per : Nat → Int32) : Nat → Nat → Int64 → Int32
  | 0, k7, x4 => x4.toInt32
  | r7 + 1, k7, x4 => F_X2_unseen_7 per r7 (k7 + 1) (fX6_commonDivisor x4 ((per k7).toInt64))
def fX2_unseen (per : Nat → Int32) (a : Nat) (b : Nat) (rd : Int32) : Int32 := F_X2_unseen_7 per ((b + 1) - a) a rd.toInt64
abbrev rmX2_unseen : Room := { frames := 1, cells := 0, slots := 0, locals := 30 }
set_option maxHeartbeats 4000000 in
set_option maxRecDepth 100000 in
theorem c_X2_unseen (l : Launch) (D : va_G) (cI : ClassId) (h : Nat) (tp : Nat) (tq : Nat) (per : Nat → Int32) (rea : Nat → Int32) (rn : Nat) (a : Nat) (b : Nat) (lst : Int32) (rd : Int32) (hrn : rn ≤ 4) (hper : ∀ i, i < 4 → ¬ per i = 0) (hb4 : b < 4) (hab : a ≤ b) (hlst : lst = nI b) : Met l yX2_unseen wsX2_unseen rmX2_unseen (va_Pc [.ref h, .int (nI a), .int lst, .int rd] (roP D [(cI, .int)] [(h, .inr (1, [.ref tp, .ref tq, .int (nI rn)])), (tp, .inl (cI, 4, .inl per)), (tq, .inl (cI, 4, .inl rea))])) (vp_Si (fun r9 => r9 = fX2_unseen per a b rd)) 0 0 (fun _ => False) := by
  generalize hF : fX2_unseen per a b rd = T
  refine Met.ofW (cc := cX2_unseen) (maxL := 7) (ret := (some .int)) (by decide) rfl ?_
  intro p e s m args below meth c s₁ B hml hv
  obtain ⟨rfl, hP, hK⟩ := hv
  have hx := B.exec
  have hb := B.bytes
  have hr := B.returns
  have hts := atoms_spec (ws := wsX2_unseen) B.pre
  have hown : s.vm.findClass RX2 = some m.cls := findClass_of_methodNamed B.named
  have hlocks := B.notSynchronized
  have hinX2 : ∀ w ∈ u_ws RX2 TX2 3, w ∈ wsX2_unseen := by decide +kernel
  have hf11 := hts (.fieldLink RX2 11 "PulseSigns$Rests" "periods" "[I") (by decide +kernel)
  have hiniX6 := hts (.initialized RX6) (by decide +kernel)
  have hst_X6_commonDivisor := hts (.static yX6_commonDivisor) (by decide +kernel)
  have hl := lv_entry ([.ref h, .int (nI a), .int lst, .int rd]) (n := 7) (Nat.le_of_ble_eq_true rfl)
  rw [lg_entry_eq]
  generalize (lg_sl ([.ref h, .int (nI a), .int lst, .int rd]) ++ List.replicate (7 - (lg_sl ([.ref h, .int (nI a), .int lst, .int rd])).length) Slot.unset).toArray = ls at hl ⊢
  refine w_Q (fun Q hQ => ?_)
  subst hlst
  have hl : lv_has ls 7 [(0, .ref h), (1, .int (nI a)), (2, .int (nI b)), (3, .int rd)] := hl
  rw [fX2_unseen] at hF
  refine lv_iload_n hx hb dX2_unseen_0 rfl (lv_at hl 3 rfl) ?_
  refine lv_i2l hx hb dX2_unseen_1 rfl ?_
  refine lv_lstore (lv' := [(4, .long rd.toInt64), (0, .ref h), (1, .int (nI a)), (2, .int (nI b)), (3, .int rd)]) hx hb dX2_unseen_2 hl (by decide) rfl (fun ls hl => ?_)
  refine lv_iload_n hx hb dX2_unseen_4 rfl (lv_at hl 2 rfl) ?_
  refine lv_istore (lv' := [(6, .int (nI a)), (4, .long rd.toInt64), (0, .ref h), (1, .int (nI a)), (2, .int (nI b)), (3, .int rd)]) hx hb dX2_unseen_5 hl (by decide) rfl (fun ls hl => ?_)
  have lp7 : ∀ (r7 k7 : Nat) (x4 : Int64) (ls : Array Slot), r7 = (b + 1) - k7 → k7 ≤ (b + 1) + 1 → lv_has ls 7 [(0, .ref h), (1, .int (nI a)), (2, .int (nI b)), (3, .int rd), (4, .long x4), (6, .int (nI k7))] → F_X2_unseen_7 per r7 k7 x4 = T → W p l e (headSpec wsX2_unseen rmX2_unseen).room s m ([.ref h, .int (nI a), .int (nI b), .int rd] : List Value).toArray below meth c s.heap [] 0 0 Q (F0 m 7 ls []) := by
    intro r7
    induction r7 with
    | zero =>
      intro k7 x4 ls hi7_0 hi7_1 hl hF
      rw [F_X2_unseen_7] at hF
      refine lv_iload hx hb dX2_unseen_7 (lv_at hl 5 rfl) ?_
      refine lv_iload_n hx hb dX2_unseen_9 rfl (lv_at hl 2 rfl) ?_
      refine lv_icmp_gt (tgt := 34) hx hb dX2_unseen_10 (by decide) (fun c10 => ?_) (fun c10 => ?_)
      · skip
        refine lv_lload hx hb dX2_unseen_34 (lv_at hl 4 rfl) ?_
        refine lv_l2i hx hb dX2_unseen_36 rfl ?_
        subst hQ
        exact W.iret (v := x4.toInt32) hx hb hr (fun u9 ht hW => ⟨_, rfl, hF, ht⟩) (fun q hq => by cases hq) dX2_unseen_37
      · exact False.elim (c10 (nI_lt (a := b) (b := k7) (by omega) (by omega)))
    | succ r7 ih7 =>
      intro k7 x4 ls hi7_0 hi7_1 hl hF
      rw [F_X2_unseen_7] at hF
      refine lv_iload hx hb dX2_unseen_7 (lv_at hl 5 rfl) ?_
      refine lv_iload_n hx hb dX2_unseen_9 rfl (lv_at hl 2 rfl) ?_
      refine lv_icmp_gt (tgt := 34) hx hb dX2_unseen_10 (by decide) (fun c10 => ?_) (fun c10 => ?_)
      · exact False.elim (nI_nlt (a := b) (b := k7) (by omega) (by omega) c10)
      · skip
        refine lv_lload hx hb dX2_unseen_13 (lv_at hl 4 rfl) ?_
        refine lv_aload_n hx hb dX2_unseen_15 rfl (lv_at hl 0 rfl) ?_
        refine va_get (D := D) (ci := 1) (v := .ref tp) (C := RX2) (T := TX2) (N := 3) hx hb hts hinX2 hown hK.1 hP 0 rfl rfl 0 (by decide) hf11 (fun _ h9 => h9) rfl dX2_unseen_16 ?_
        refine lv_iload hx hb dX2_unseen_19 (lv_at hl 5 rfl) ?_
        refine w_ald hx hb hK hP 1 0 rfl rfl (k7) rfl (by omega) (by omega) dX2_unseen_21 ?_
        refine lv_i2l hx hb dX2_unseen_22 rfl ?_
        have hPc := hP.sub (ws' := []) [] rfl
        refine cs_l (va_runSN (As := [.long x4, .long ((per k7).toInt64)]) (rest := []) ⟨hx, hb, hml, hown, hts⟩ (c_X6_commonDivisor l D cI x4 ((per k7).toInt64) ) ⟨va_cnB 2 hts gX2_unseen_X6_commonDivisor_n49 rfl rfl rfl hK.2.2.2.2.2.2.2.1 hiniX6 (by decide +kernel) ⟨(Nat.le_of_ble_eq_true rfl), (Nat.le_of_ble_eq_true rfl)⟩, hst_X6_commonDivisor, trivial⟩ (ro_pre hPc hK) rfl rfl hl.1 rfl (lv_room (Nat.le_of_ble_eq_true rfl)) dX2_unseen_23 ⟨Nat.zero_le _, Nat.zero_le _⟩) ?_
        refine lv_lstore (lv' := [(4, .long (fX6_commonDivisor x4 ((per k7).toInt64))), (0, .ref h), (1, .int (nI a)), (2, .int (nI b)), (3, .int rd), (6, .int (nI k7))]) hx hb dX2_unseen_26 hl (by decide) rfl (fun ls hl => ?_)
        refine lv_iinc (v := nI (k7 + 1)) (lv' := [(6, .int (nI (k7 + 1))), (4, .long (fX6_commonDivisor x4 ((per k7).toInt64))), (0, .ref h), (1, .int (nI a)), (2, .int (nI b)), (3, .int rd)]) hx hb dX2_unseen_28 hl (k := 5) rfl (nI_1 _) (by decide) rfl (fun ls hl => ?_)
        refine lv_goto (tgt := 7) hx hb dX2_unseen_31 (by decide) ?_
        exact ih7 (k7 + 1) (fX6_commonDivisor x4 ((per k7).toInt64)) ls (by omega) (by omega)  (lv_sub hl [2, 3, 4, 5, 1, 0] rfl) hF
  exact lp7 ((b + 1) - a) a rd.toInt64 ls rfl (by omega)  (lv_sub hl [2, 3, 4, 5, 1, 0] rfl) hF
