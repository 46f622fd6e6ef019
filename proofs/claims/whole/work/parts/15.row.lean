def fX3_maySeek (w : Int32) (g : Int32) (k : Int32) (sc : Int32) : Int32 := (if (fX6_within w 1 8) = 0 then 0 else (if (fX6_within g 0 3) = 0 then 0 else (if (fX6_within k 1 8) = 0 then 0 else (if (fX6_within sc 1 500) = 0 then 0 else 1))))
abbrev rmX3_maySeek : Room := { frames := 1, cells := 0, slots := 0, locals := 22 }
set_option maxHeartbeats 4000000 in
set_option maxRecDepth 100000 in
theorem c_X3_maySeek (l : Launch) (D : va_G) (cI : ClassId) (w : Int32) (g : Int32) (k : Int32) (sc : Int32)  : Met l yX3_maySeek wsX3_maySeek rmX3_maySeek (va_Pc [.int w, .int g, .int k, .int sc] (roP D [(cI, .int)] [])) (vp_Si (fun r9 => r9 = fX3_maySeek w g k sc)) 0 0 (fun _ => False) := by
  generalize hF : fX3_maySeek w g k sc = T
  refine Met.ofW (cc := cX3_maySeek) (maxL := 4) (ret := (some .boolean)) (by decide) rfl ?_
  intro p e s m args below meth c s₁ B hml hv
  obtain ⟨rfl, hP, hK⟩ := hv
  have hx := B.exec
  have hb := B.bytes
  have hr := B.returns
  have hts := atoms_spec (ws := wsX3_maySeek) B.pre
  have hown : s.vm.findClass RX3 = some m.cls := findClass_of_methodNamed B.named
  have hlocks := B.notSynchronized
  have hiniX6 := hts (.initialized RX6) (by decide +kernel)
  have hst_X6_within := hts (.static yX6_within) (by decide +kernel)
  have hl := lv_entry ([.int w, .int g, .int k, .int sc]) (n := 4) (Nat.le_of_ble_eq_true rfl)
  rw [lg_entry_eq]
  generalize (lg_sl ([.int w, .int g, .int k, .int sc]) ++ List.replicate (4 - (lg_sl ([.int w, .int g, .int k, .int sc])).length) Slot.unset).toArray = ls at hl ⊢
  refine w_Q (fun Q hQ => ?_)
  have hl : lv_has ls 4 [(0, .int w), (1, .int g), (2, .int k), (3, .int sc)] := hl
  rw [fX3_maySeek] at hF
  refine lv_iload_n hx hb dX3_maySeek_0 rfl (lv_at hl 0 rfl) ?_
  refine lv_iconst (v := 1) hx hb dX3_maySeek_1 (by decide) ?_
  refine lv_bipush (v := 8) hx hb dX3_maySeek_2 (by decide) ?_
  refine cs_i (va_runSN (As := [.int w, .int 1, .int 8]) (rest := []) ⟨hx, hb, hml, hown, hts⟩ (c_X6_within l D cI w 1 8 ) ⟨va_cnB 3 hts gX3_maySeek_X6_within_n20 rfl rfl rfl hK.2.2.2.2.2.2.2.2.1 hiniX6 (by decide +kernel) ⟨(Nat.le_of_ble_eq_true rfl), (Nat.le_of_ble_eq_true rfl)⟩, hst_X6_within, trivial⟩ (ro_pre hP hK) rfl rfl hl.1 rfl (lv_room (Nat.le_of_ble_eq_true rfl)) dX3_maySeek_4 ⟨Nat.zero_le _, Nat.zero_le _⟩) ?_
  refine lv_if_eq (tgt := 44) hx hb dX3_maySeek_7 (by decide) (fun c7 => ?_) (fun c7 => ?_)
  · rw [if_pos c7] at hF
    refine lv_iconst (v := 0) hx hb dX3_maySeek_44 (by decide) ?_
    subst hQ
    exact W.zret (v := 0) (ty := .boolean) hx hb hr rfl (fun u9 ht hW => ⟨_, rfl, hF, ht⟩) (fun q hq => by cases hq) dX3_maySeek_45
  · rw [if_neg c7] at hF
    refine lv_iload_n hx hb dX3_maySeek_10 rfl (lv_at hl 1 rfl) ?_
    refine lv_iconst (v := 0) hx hb dX3_maySeek_11 (by decide) ?_
    refine lv_iconst (v := 3) hx hb dX3_maySeek_12 (by decide) ?_
    refine cs_i (va_runSN (As := [.int g, .int 0, .int 3]) (rest := []) ⟨hx, hb, hml, hown, hts⟩ (c_X6_within l D cI g 0 3 ) ⟨va_cnB 3 hts gX3_maySeek_X6_within_n20 rfl rfl rfl hK.2.2.2.2.2.2.2.2.1 hiniX6 (by decide +kernel) ⟨(Nat.le_of_ble_eq_true rfl), (Nat.le_of_ble_eq_true rfl)⟩, hst_X6_within, trivial⟩ (ro_pre hP hK) rfl rfl hl.1 rfl (lv_room (Nat.le_of_ble_eq_true rfl)) dX3_maySeek_13 ⟨Nat.zero_le _, Nat.zero_le _⟩) ?_
    refine lv_if_eq (tgt := 44) hx hb dX3_maySeek_16 (by decide) (fun c16 => ?_) (fun c16 => ?_)
    · rw [if_pos c16] at hF
      refine lv_iconst (v := 0) hx hb dX3_maySeek_44 (by decide) ?_
      subst hQ
      exact W.zret (v := 0) (ty := .boolean) hx hb hr rfl (fun u9 ht hW => ⟨_, rfl, hF, ht⟩) (fun q hq => by cases hq) dX3_maySeek_45
    · rw [if_neg c16] at hF
      refine lv_iload_n hx hb dX3_maySeek_19 rfl (lv_at hl 2 rfl) ?_
      refine lv_iconst (v := 1) hx hb dX3_maySeek_20 (by decide) ?_
      refine lv_bipush (v := 8) hx hb dX3_maySeek_21 (by decide) ?_
      refine cs_i (va_runSN (As := [.int k, .int 1, .int 8]) (rest := []) ⟨hx, hb, hml, hown, hts⟩ (c_X6_within l D cI k 1 8 ) ⟨va_cnB 3 hts gX3_maySeek_X6_within_n20 rfl rfl rfl hK.2.2.2.2.2.2.2.2.1 hiniX6 (by decide +kernel) ⟨(Nat.le_of_ble_eq_true rfl), (Nat.le_of_ble_eq_true rfl)⟩, hst_X6_within, trivial⟩ (ro_pre hP hK) rfl rfl hl.1 rfl (lv_room (Nat.le_of_ble_eq_true rfl)) dX3_maySeek_23 ⟨Nat.zero_le _, Nat.zero_le _⟩) ?_
      refine lv_if_eq (tgt := 44) hx hb dX3_maySeek_26 (by decide) (fun c26 => ?_) (fun c26 => ?_)
      · rw [if_pos c26] at hF
        refine lv_iconst (v := 0) hx hb dX3_maySeek_44 (by decide) ?_
        subst hQ
        exact W.zret (v := 0) (ty := .boolean) hx hb hr rfl (fun u9 ht hW => ⟨_, rfl, hF, ht⟩) (fun q hq => by cases hq) dX3_maySeek_45
      · rw [if_neg c26] at hF
        refine lv_iload_n hx hb dX3_maySeek_29 rfl (lv_at hl 3 rfl) ?_
        refine lv_iconst (v := 1) hx hb dX3_maySeek_30 (by decide) ?_
        refine lv_sipush (v := 500) hx hb dX3_maySeek_31 (by decide) ?_
        refine cs_i (va_runSN (As := [.int sc, .int 1, .int 500]) (rest := []) ⟨hx, hb, hml, hown, hts⟩ (c_X6_within l D cI sc 1 500 ) ⟨va_cnB 3 hts gX3_maySeek_X6_within_n20 rfl rfl rfl hK.2.2.2.2.2.2.2.2.1 hiniX6 (by decide +kernel) ⟨(Nat.le_of_ble_eq_true rfl), (Nat.le_of_ble_eq_true rfl)⟩, hst_X6_within, trivial⟩ (ro_pre hP hK) rfl rfl hl.1 rfl (lv_room (Nat.le_of_ble_eq_true rfl)) dX3_maySeek_34 ⟨Nat.zero_le _, Nat.zero_le _⟩) ?_
        refine lv_if_eq (tgt := 44) hx hb dX3_maySeek_37 (by decide) (fun c37 => ?_) (fun c37 => ?_)
        · rw [if_pos c37] at hF
          refine lv_iconst (v := 0) hx hb dX3_maySeek_44 (by decide) ?_
          subst hQ
          exact W.zret (v := 0) (ty := .boolean) hx hb hr rfl (fun u9 ht hW => ⟨_, rfl, hF, ht⟩) (fun q hq => by cases hq) dX3_maySeek_45
        · rw [if_neg c37] at hF
          refine lv_iconst (v := 1) hx hb dX3_maySeek_40 (by decide) ?_
          refine lv_goto (tgt := 45) hx hb dX3_maySeek_41 (by decide) ?_
          subst hQ
          exact W.zret (v := 1) (ty := .boolean) hx hb hr rfl (fun u9 ht hW => ⟨_, rfl, hF, ht⟩) (fun q hq => by cases hq) dX3_maySeek_45
def fX3_append (rw : Nat → Int32) (wn : Nat) (v : Int32) : Int32 × Nat × (Nat → Int32) := (if (nI wn) < 64 then (1, (wn + 1), upd rw wn v) else (0, wn, rw))
abbrev rmX3_append : Room := { frames := 0, cells := 0, slots := 0, locals := 0 }
set_option maxHeartbeats 4000000 in
set_option maxRecDepth 100000 in
theorem c_X3_append (l : Launch) (D : va_G) (cI : ClassId) (sz : Nat) (h : Nat) (tn : Nat) (td : Nat) (rw : Nat → Int32) (wn : Nat) (od : Nat → Int32) (v : Int32) (hwn : wn ≤ 64) : Met l yX3_append wsX3_append rmX3_append (va_Pc [.ref h, .int v] (wrP D [(cI, .int)] [(h, .inr (2, [.ref tn, .int (nI wn), .ref td])), (tn, .inl (cI, 64, .inl rw)), (td, .inl (cI, 16, .inl od))] sz)) (va_Qi (fun r9 (_ : Unit) => r9 = (fX3_append rw wn v).1) (fun _ u9 => va_P D vwCl [(h, .inr (2, [.ref tn, .int (nI ((fX3_append rw wn v).2.1)), .ref td])), (tn, .inl (cI, 64, .inl ((fX3_append rw wn v).2.2))), (td, .inl (cI, 16, .inl od))] u9.heap) (va_A [(h, .inr (2, [.ref tn, .int (nI wn), .ref td])), (tn, .inl (cI, 64, .inl rw)), (td, .inl (cI, 16, .inl od))] sz)) 0 0 (va_A [(h, .inr (2, [.ref tn, .int (nI wn), .ref td])), (tn, .inl (cI, 64, .inl rw)), (td, .inl (cI, 16, .inl od))] sz) := by
  generalize hF : fX3_append rw wn v = T
  refine Met.ofW (cc := cX3_append) (maxL := 2) (ret := (some .boolean)) (by decide) rfl ?_
  intro p e s m args below meth c s₁ B hml hv
  obtain ⟨rfl, hsz, hP, hK, hD0⟩ := hv
  have hx := B.exec
  have hb := B.bytes
  have hr := B.returns
  have hts := atoms_spec (ws := wsX3_append) B.pre
  have hown : s.vm.findClass RX3 = some m.cls := findClass_of_methodNamed B.named
  have hlocks := B.notSynchronized
  have hinX3 : ∀ w ∈ u_ws RX3 TX3 3, w ∈ wsX3_append := by decide +kernel
  have hf13 := hts (.fieldLink RX3 13 "PulseSigns$Row" "length" "I") (by decide +kernel)
  have hf9 := hts (.fieldLink RX3 9 "PulseSigns$Row" "numbers" "[I") (by decide +kernel)
  subst hsz
  have hD := hD0.self (sz := s.heap.size)
  generalize hAe : va_A [(h, .inr (2, [.ref tn, .int (nI wn), .ref td])), (tn, .inl (cI, 64, .inl rw)), (td, .inl (cI, 16, .inl od))] s.heap.size = A at hD ⊢
  have hA : ∀ q : Nat, s.heap.size ≤ q → A q := fun q h => by rw [← hAe]; exact Or.inr h
  have hS : va_S A s.heap s.heap [] := va_S.rf
  have hP : va_P D vwCl [(h, .inr (2, [.ref tn, .int (nI wn), .ref td])), (tn, .inl (cI, 64, .inl rw)), (td, .inl (cI, 16, .inl od))] s.heap := hP
  have hl := lv_entry ([.ref h, .int v]) (n := 2) (Nat.le_of_ble_eq_true rfl)
  rw [lg_entry_eq]
  generalize (lg_sl ([.ref h, .int v]) ++ List.replicate (2 - (lg_sl ([.ref h, .int v])).length) Slot.unset).toArray = ls at hl ⊢
  refine w_Q (fun Q hQ => ?_)
  have hl : lv_has ls 2 [(0, .ref h), (1, .int v)] := hl
  rw [fX3_append] at hF
  refine lv_aload_n hx hb dX3_append_0 rfl (lv_at hl 0 rfl) ?_
  refine va_get (D := D) (ci := 2) (v := .int (nI wn)) (C := RX3) (T := TX3) (N := 3) hx hb hts hinX3 hown hK.1 hP 0 rfl rfl 1 (by decide) hf13 (fun _ h9 => h9) rfl dX3_append_1 ?_
  refine lv_bipush (v := 64) hx hb dX3_append_4 (by decide) ?_
  refine lv_icmp_lt (tgt := 11) hx hb dX3_append_6 (by decide) (fun c6 => ?_) (fun c6 => ?_)
  · rw [if_pos c6] at hF
    have q6 : wn < 64 := (nI_ltI (a := wn) (b := 64) (by omega) (by omega)).mp c6
    refine lv_aload_n hx hb dX3_append_11 rfl (lv_at hl 0 rfl) ?_
    refine va_get (D := D) (ci := 2) (v := .ref tn) (C := RX3) (T := TX3) (N := 3) hx hb hts hinX3 hown hK.1 hP 0 rfl rfl 0 (by decide) hf9 (fun _ h9 => h9) rfl dX3_append_12 ?_
    refine lv_aload_n hx hb dX3_append_15 rfl (lv_at hl 0 rfl) ?_
    refine va_get (D := D) (ci := 2) (v := .int (nI wn)) (C := RX3) (T := TX3) (N := 3) hx hb hts hinX3 hown hK.1 hP 0 rfl rfl 1 (by decide) hf13 (fun _ h9 => h9) rfl dX3_append_16 ?_
    refine lv_iload_n hx hb dX3_append_19 rfl (lv_at hl 1 rfl) ?_
    refine w_ast hx hb hK hP hD hS 1 0 rfl rfl (wn) rfl (by omega) (by omega) dX3_append_20 (fun H locs hP hD hS => ?_)
    have hP : va_P D vwCl [(h, .inr (2, [.ref tn, .int (nI wn), .ref td])), (tn, .inl (cI, 64, .inl (upd rw wn v))), (td, .inl (cI, 16, .inl od))] H := hP
    have hD : va_D A [(h, .inr (2, [.ref tn, .int (nI wn), .ref td])), (tn, .inl (cI, 64, .inl (upd rw wn v))), (td, .inl (cI, 16, .inl od))] := hD
    refine lv_aload_n hx hb dX3_append_21 rfl (lv_at hl 0 rfl) ?_
    refine lv_dup hx hb dX3_append_22 rfl ?_
    refine va_get (D := D) (ci := 2) (v := .int (nI wn)) (C := RX3) (T := TX3) (N := 3) hx hb hts hinX3 hown hK.1 hP 0 rfl rfl 1 (by decide) hf13 (fun _ h9 => h9) rfl dX3_append_23 ?_
    refine lv_iconst (v := 1) hx hb dX3_append_26 (by decide) ?_
    refine lv_iadd hx hb dX3_append_27 ?_
    rw [nI_1]
    refine va_put (D := D) (ci := 2) (v := .int (nI (wn + 1))) (ty := .int) (C := RX3) (T := TX3) (N := 3) hx hb hts hinX3 tyX3 tyX3_ok nmX3 hown hK.1 hP hD hS 0 rfl rfl 1 (by decide) hf13 (fun _ h9 => h9) rfl (by decide +kernel) rfl rfl (Nat.le_of_ble_eq_true rfl) dX3_append_28 (fun H locs hP hD hS => ?_)
    have hP : va_P D vwCl [(h, .inr (2, [.ref tn, .int (nI (wn + 1)), .ref td])), (tn, .inl (cI, 64, .inl (upd rw wn v))), (td, .inl (cI, 16, .inl od))] H := hP
    have hD : va_D A [(h, .inr (2, [.ref tn, .int (nI (wn + 1)), .ref td])), (tn, .inl (cI, 64, .inl (upd rw wn v))), (td, .inl (cI, 16, .inl od))] := hD
    refine lv_iconst (v := 1) hx hb dX3_append_31 (by decide) ?_
    subst hF
    subst hQ
    exact W.zret (v := 1) (ty := .boolean) hx hb hr rfl (fun u9 ht hW => ⟨⟨_, (), rfl, rfl, by rw [← ht] at hP; exact hP⟩, hS.F ht⟩) hS.2.2 dX3_append_32
  · rw [if_neg c6] at hF
    refine lv_iconst (v := 0) hx hb dX3_append_9 (by decide) ?_
    subst hF
    subst hQ
    exact W.zret (v := 0) (ty := .boolean) hx hb hr rfl (fun u9 ht hW => ⟨⟨_, (), rfl, rfl, by rw [← ht] at hP; exact hP⟩, hS.F ht⟩) hS.2.2 dX3_append_10
def F_X3_insert_2 (v : Int32) : Nat → Nat → (Nat → Int32) → (Nat → Int32)
  | 0, k2, od => upd od k2 v
  | r2 + 1, k2, od => (if (od (k2 - 1)) ≤ v then upd od k2 v else F_X3_insert_2 v r2 (k2 - 1) (upd od k2 (od (k2 - 1))))
def fX3_insert (od : Nat → Int32) (v : Int32) (m2 : Nat) : (Nat → Int32) := F_X3_insert_2 v m2 m2 od
abbrev rmX3_insert : Room := { frames := 0, cells := 0, slots := 0, locals := 0 }
set_option maxHeartbeats 4000000 in
set_option maxRecDepth 100000 in
theorem c_X3_insert (l : Launch) (D : va_G) (cI : ClassId) (sz : Nat) (h : Nat) (tn : Nat) (td : Nat) (rw : Nat → Int32) (wn : Nat) (od : Nat → Int32) (v : Int32) (m2 : Nat) (hm : m2 < 16) : Met l yX3_insert wsX3_insert rmX3_insert (va_Pc [.ref h, .int v, .int (nI m2)] (wrP D [(cI, .int)] [(h, .inr (2, [.ref tn, .int (nI wn), .ref td])), (tn, .inl (cI, 64, .inl rw)), (td, .inl (cI, 16, .inl od))] sz)) (va_Qv (fun (_ : Unit) => True) (fun _ u9 => va_P D vwCl [(h, .inr (2, [.ref tn, .int (nI wn), .ref td])), (tn, .inl (cI, 64, .inl rw)), (td, .inl (cI, 16, .inl (fX3_insert od v m2)))] u9.heap) (va_A [(h, .inr (2, [.ref tn, .int (nI wn), .ref td])), (tn, .inl (cI, 64, .inl rw)), (td, .inl (cI, 16, .inl od))] sz)) 0 0 (va_A [(h, .inr (2, [.ref tn, .int (nI wn), .ref td])), (tn, .inl (cI, 64, .inl rw)), (td, .inl (cI, 16, .inl od))] sz) := by
  generalize hF : fX3_insert od v m2 = T
  refine Met.ofW (cc := cX3_insert) (maxL := 4) (ret := none) (by decide) rfl ?_
  intro p e s m args below meth c s₁ B hml hv
  obtain ⟨rfl, hsz, hP, hK, hD0⟩ := hv
  have hx := B.exec
  have hb := B.bytes
  have hr := B.returns
  have hts := atoms_spec (ws := wsX3_insert) B.pre
  have hown : s.vm.findClass RX3 = some m.cls := findClass_of_methodNamed B.named
  have hlocks := B.notSynchronized
  have hinX3 : ∀ w ∈ u_ws RX3 TX3 3, w ∈ wsX3_insert := by decide +kernel
  have hf17 := hts (.fieldLink RX3 17 "PulseSigns$Row" "ordered" "[I") (by decide +kernel)
  subst hsz
  have hD := hD0.self (sz := s.heap.size)
  generalize hAe : va_A [(h, .inr (2, [.ref tn, .int (nI wn), .ref td])), (tn, .inl (cI, 64, .inl rw)), (td, .inl (cI, 16, .inl od))] s.heap.size = A at hD ⊢
  have hA : ∀ q : Nat, s.heap.size ≤ q → A q := fun q h => by rw [← hAe]; exact Or.inr h
  have hS : va_S A s.heap s.heap [] := va_S.rf
  have hP : va_P D vwCl [(h, .inr (2, [.ref tn, .int (nI wn), .ref td])), (tn, .inl (cI, 64, .inl rw)), (td, .inl (cI, 16, .inl od))] s.heap := hP
  have hl := lv_entry ([.ref h, .int v, .int (nI m2)]) (n := 4) (Nat.le_of_ble_eq_true rfl)
  rw [lg_entry_eq]
  generalize (lg_sl ([.ref h, .int v, .int (nI m2)]) ++ List.replicate (4 - (lg_sl ([.ref h, .int v, .int (nI m2)])).length) Slot.unset).toArray = ls at hl ⊢
  refine w_Q (fun Q hQ => ?_)
  have hl : lv_has ls 4 [(0, .ref h), (1, .int v), (2, .int (nI m2))] := hl
  rw [fX3_insert] at hF
  refine lv_iload_n hx hb dX3_insert_0 rfl (lv_at hl 2 rfl) ?_
  refine lv_istore_n (lv' := [(3, .int (nI m2)), (0, .ref h), (1, .int v), (2, .int (nI m2))]) hx hb dX3_insert_1 rfl hl (by decide) rfl (fun ls hl => ?_)
  have lp2 : ∀ (r2 k2 : Nat) (od : Nat → Int32) (H : Heap) (locs : List Loc) (ls : Array Slot), k2 = r2 → k2 ≤ m2 → va_P D vwCl [(h, .inr (2, [.ref tn, .int (nI wn), .ref td])), (tn, .inl (cI, 64, .inl rw)), (td, .inl (cI, 16, .inl od))] H → va_D A [(h, .inr (2, [.ref tn, .int (nI wn), .ref td])), (tn, .inl (cI, 64, .inl rw)), (td, .inl (cI, 16, .inl od))] → va_S A s.heap H locs → lv_has ls 4 [(0, .ref h), (1, .int v), (2, .int (nI m2)), (3, .int (nI k2))] → F_X3_insert_2 v r2 k2 od = T → W p l e (headSpec wsX3_insert rmX3_insert).room s m ([.ref h, .int v, .int (nI m2)] : List Value).toArray below meth c H locs 0 0 Q (F0 m 2 ls []) := by
    intro r2
    induction r2 with
    | zero =>
      intro k2 od H locs ls hi2_0 hi2_1 hP hD hS hl hF
      rw [F_X3_insert_2] at hF
      refine lv_iload_n hx hb dX3_insert_2 rfl (lv_at hl 3 rfl) ?_
      refine lv_if_le (tgt := 38) hx hb dX3_insert_3 (by decide) (fun c3 => ?_) (fun c3 => ?_)
      · skip
        refine lv_aload_n hx hb dX3_insert_38 rfl (lv_at hl 0 rfl) ?_
        refine va_get (D := D) (ci := 2) (v := .ref td) (C := RX3) (T := TX3) (N := 3) hx hb hts hinX3 hown hK.1 hP 0 rfl rfl 2 (by decide) hf17 (fun _ h9 => h9) rfl dX3_insert_39 ?_
        refine lv_iload_n hx hb dX3_insert_42 rfl (lv_at hl 3 rfl) ?_
        refine lv_iload_n hx hb dX3_insert_43 rfl (lv_at hl 1 rfl) ?_
        refine w_ast hx hb hK hP hD hS 2 0 rfl rfl (k2) rfl (by omega) (by omega) dX3_insert_44 (fun H locs hP hD hS => ?_)
        have hP : va_P D vwCl [(h, .inr (2, [.ref tn, .int (nI wn), .ref td])), (tn, .inl (cI, 64, .inl rw)), (td, .inl (cI, 16, .inl (upd od k2 v)))] H := hP
        have hD : va_D A [(h, .inr (2, [.ref tn, .int (nI wn), .ref td])), (tn, .inl (cI, 64, .inl rw)), (td, .inl (cI, 16, .inl (upd od k2 v)))] := hD
        subst hF
        subst hQ
        exact W.vret hx hb hr (fun u9 ht hW => ⟨⟨(), rfl, trivial, by rw [← ht] at hP; exact hP⟩, hS.F ht⟩) hS.2.2 dX3_insert_45
      · exact False.elim (c3 (nI_le (a := k2) (b := 0) (by omega) (by omega)))
    | succ r2 ih2 =>
      intro k2 od H locs ls hi2_0 hi2_1 hP hD hS hl hF
      rw [F_X3_insert_2] at hF
      refine lv_iload_n hx hb dX3_insert_2 rfl (lv_at hl 3 rfl) ?_
      refine lv_if_le (tgt := 38) hx hb dX3_insert_3 (by decide) (fun c3 => ?_) (fun c3 => ?_)
      · exact False.elim (nI_nle (by omega) (by omega) c3)
      · skip
        refine lv_aload_n hx hb dX3_insert_6 rfl (lv_at hl 0 rfl) ?_
        refine va_get (D := D) (ci := 2) (v := .ref td) (C := RX3) (T := TX3) (N := 3) hx hb hts hinX3 hown hK.1 hP 0 rfl rfl 2 (by decide) hf17 (fun _ h9 => h9) rfl dX3_insert_7 ?_
        refine lv_iload_n hx hb dX3_insert_10 rfl (lv_at hl 3 rfl) ?_
        refine lv_iconst (v := 1) hx hb dX3_insert_11 (by decide) ?_
        refine lv_isub hx hb dX3_insert_12 ?_
        refine w_ald hx hb hK hP 2 0 rfl rfl (k2 - 1) (pk_sub (b := 1) (by omega)) (by omega) (by omega) dX3_insert_13 ?_
        refine lv_iload_n hx hb dX3_insert_14 rfl (lv_at hl 1 rfl) ?_
        refine lv_icmp_le (tgt := 38) hx hb dX3_insert_15 (by decide) (fun c15 => ?_) (fun c15 => ?_)
        · rw [if_pos c15] at hF
          refine lv_aload_n hx hb dX3_insert_38 rfl (lv_at hl 0 rfl) ?_
          refine va_get (D := D) (ci := 2) (v := .ref td) (C := RX3) (T := TX3) (N := 3) hx hb hts hinX3 hown hK.1 hP 0 rfl rfl 2 (by decide) hf17 (fun _ h9 => h9) rfl dX3_insert_39 ?_
          refine lv_iload_n hx hb dX3_insert_42 rfl (lv_at hl 3 rfl) ?_
          refine lv_iload_n hx hb dX3_insert_43 rfl (lv_at hl 1 rfl) ?_
          refine w_ast hx hb hK hP hD hS 2 0 rfl rfl (k2) rfl (by omega) (by omega) dX3_insert_44 (fun H locs hP hD hS => ?_)
          have hP : va_P D vwCl [(h, .inr (2, [.ref tn, .int (nI wn), .ref td])), (tn, .inl (cI, 64, .inl rw)), (td, .inl (cI, 16, .inl (upd od k2 v)))] H := hP
          have hD : va_D A [(h, .inr (2, [.ref tn, .int (nI wn), .ref td])), (tn, .inl (cI, 64, .inl rw)), (td, .inl (cI, 16, .inl (upd od k2 v)))] := hD
          subst hF
          subst hQ
          exact W.vret hx hb hr (fun u9 ht hW => ⟨⟨(), rfl, trivial, by rw [← ht] at hP; exact hP⟩, hS.F ht⟩) hS.2.2 dX3_insert_45
        · rw [if_neg c15] at hF
          refine lv_aload_n hx hb dX3_insert_18 rfl (lv_at hl 0 rfl) ?_
          refine va_get (D := D) (ci := 2) (v := .ref td) (C := RX3) (T := TX3) (N := 3) hx hb hts hinX3 hown hK.1 hP 0 rfl rfl 2 (by decide) hf17 (fun _ h9 => h9) rfl dX3_insert_19 ?_
          refine lv_iload_n hx hb dX3_insert_22 rfl (lv_at hl 3 rfl) ?_
          refine lv_aload_n hx hb dX3_insert_23 rfl (lv_at hl 0 rfl) ?_
          refine va_get (D := D) (ci := 2) (v := .ref td) (C := RX3) (T := TX3) (N := 3) hx hb hts hinX3 hown hK.1 hP 0 rfl rfl 2 (by decide) hf17 (fun _ h9 => h9) rfl dX3_insert_24 ?_
          refine lv_iload_n hx hb dX3_insert_27 rfl (lv_at hl 3 rfl) ?_
          refine lv_iconst (v := 1) hx hb dX3_insert_28 (by decide) ?_
          refine lv_isub hx hb dX3_insert_29 ?_
          refine w_ald hx hb hK hP 2 0 rfl rfl (k2 - 1) (pk_sub (b := 1) (by omega)) (by omega) (by omega) dX3_insert_30 ?_
          refine w_ast hx hb hK hP hD hS 2 0 rfl rfl (k2) rfl (by omega) (by omega) dX3_insert_31 (fun H locs hP hD hS => ?_)
          have hP : va_P D vwCl [(h, .inr (2, [.ref tn, .int (nI wn), .ref td])), (tn, .inl (cI, 64, .inl rw)), (td, .inl (cI, 16, .inl (upd od k2 (od (k2 - 1)))))] H := hP
          have hD : va_D A [(h, .inr (2, [.ref tn, .int (nI wn), .ref td])), (tn, .inl (cI, 64, .inl rw)), (td, .inl (cI, 16, .inl (upd od k2 (od (k2 - 1)))))] := hD
          refine lv_iinc (v := nI (k2 - 1)) (lv' := [(3, .int (nI (k2 - 1))), (0, .ref h), (1, .int v), (2, .int (nI m2))]) hx hb dX3_insert_32 hl (k := 3) rfl (sb_m1 (by omega)) (by decide) rfl (fun ls hl => ?_)
          refine lv_goto (tgt := 2) hx hb dX3_insert_35 (by decide) ?_
          exact ih2 (k2 - 1) (upd od k2 (od (k2 - 1))) H locs ls (by omega) (by omega) hP hD hS (lv_sub hl [1, 2, 3, 0] rfl) hF
  exact lp2 m2 m2 od s.heap _ ls rfl (Nat.le_refl _) hP hD hS (lv_sub hl [1, 2, 3, 0] rfl) hF
def F_X3_orderNeighbours_8 (rw : Nat → Int32) (wn : Nat) (x : Nat) : Nat → Nat → Nat → (Nat → Int32) → (Int32 × (Nat → Int32))
  | 0, k8, x4, od => (nI x4, od)
  | r8 + 1, k8, x4, od => (if ((nI x) - (nI k8)) < 0 then (if (nI wn) ≤ ((nI x) + (nI k8)) then F_X3_orderNeighbours_8 rw wn x r8 (k8 + 1) x4 od else F_X3_orderNeighbours_8 rw wn x r8 (k8 + 1) (x4 + 1) (fX3_insert od (rw (x + k8)) x4)) else (if (nI wn) ≤ ((nI x) + (nI k8)) then F_X3_orderNeighbours_8 rw wn x r8 (k8 + 1) (x4 + 1) (fX3_insert od (rw (x - k8)) x4) else F_X3_orderNeighbours_8 rw wn x r8 (k8 + 1) ((x4 + 1) + 1) (fX3_insert (fX3_insert od (rw (x - k8)) x4) (rw (x + k8)) (x4 + 1))))
def fX3_orderNeighbours (rw : Nat → Int32) (wn : Nat) (od : Nat → Int32) (x : Nat) (w : Nat) (g : Nat) : Int32 × (Nat → Int32) := F_X3_orderNeighbours_8 rw wn x ((g + w + 1) - (g + 1)) (g + 1) 0 od
abbrev rmX3_orderNeighbours : Room := { frames := 1, cells := 0, slots := 0, locals := 23 }
set_option maxHeartbeats 4000000 in
set_option maxRecDepth 100000 in
theorem c_X3_orderNeighbours (l : Launch) (D : va_G) (cI : ClassId) (sz : Nat) (h : Nat) (tn : Nat) (td : Nat) (rw : Nat → Int32) (wn : Nat) (od : Nat → Int32) (x : Nat) (w : Nat) (g : Nat) (hwn : wn ≤ 64) (hx0 : x < 64) (hw : w ≤ 8) (hg : g ≤ 3) : Met l yX3_orderNeighbours wsX3_orderNeighbours rmX3_orderNeighbours (va_Pc [.ref h, .int (nI x), .int (nI w), .int (nI g)] (wrP D [(cI, .int)] [(h, .inr (2, [.ref tn, .int (nI wn), .ref td])), (tn, .inl (cI, 64, .inl rw)), (td, .inl (cI, 16, .inl od))] sz)) (va_Qi (fun r9 (_ : Unit) => r9 = (fX3_orderNeighbours rw wn od x w g).1) (fun _ u9 => va_P D vwCl [(h, .inr (2, [.ref tn, .int (nI wn), .ref td])), (tn, .inl (cI, 64, .inl rw)), (td, .inl (cI, 16, .inl ((fX3_orderNeighbours rw wn od x w g).2)))] u9.heap) (va_A [(h, .inr (2, [.ref tn, .int (nI wn), .ref td])), (tn, .inl (cI, 64, .inl rw)), (td, .inl (cI, 16, .inl od))] sz)) 0 0 (va_A [(h, .inr (2, [.ref tn, .int (nI wn), .ref td])), (tn, .inl (cI, 64, .inl rw)), (td, .inl (cI, 16, .inl od))] sz) := by
  generalize hF : fX3_orderNeighbours rw wn od x w g = T
  refine Met.ofW (cc := cX3_orderNeighbours) (maxL := 6) (ret := (some .int)) (by decide) rfl ?_
  intro p e s m args below meth c s₁ B hml hv
  obtain ⟨rfl, hsz, hP, hK, hD0⟩ := hv
  have hx := B.exec
  have hb := B.bytes
  have hr := B.returns
  have hts := atoms_spec (ws := wsX3_orderNeighbours) B.pre
  have hown : s.vm.findClass RX3 = some m.cls := findClass_of_methodNamed B.named
  have hlocks := B.notSynchronized
  have hinX3 : ∀ w ∈ u_ws RX3 TX3 3, w ∈ wsX3_orderNeighbours := by decide +kernel
  have hf13 := hts (.fieldLink RX3 13 "PulseSigns$Row" "length" "I") (by decide +kernel)
  have hf9 := hts (.fieldLink RX3 9 "PulseSigns$Row" "numbers" "[I") (by decide +kernel)
  subst hsz
  have hD := hD0.self (sz := s.heap.size)
  generalize hAe : va_A [(h, .inr (2, [.ref tn, .int (nI wn), .ref td])), (tn, .inl (cI, 64, .inl rw)), (td, .inl (cI, 16, .inl od))] s.heap.size = A at hD ⊢
  have hA : ∀ q : Nat, s.heap.size ≤ q → A q := fun q h => by rw [← hAe]; exact Or.inr h
  have hS : va_S A s.heap s.heap [] := va_S.rf
  have hP : va_P D vwCl [(h, .inr (2, [.ref tn, .int (nI wn), .ref td])), (tn, .inl (cI, 64, .inl rw)), (td, .inl (cI, 16, .inl od))] s.heap := hP
  have hl := lv_entry ([.ref h, .int (nI x), .int (nI w), .int (nI g)]) (n := 6) (Nat.le_of_ble_eq_true rfl)
  rw [lg_entry_eq]
  generalize (lg_sl ([.ref h, .int (nI x), .int (nI w), .int (nI g)]) ++ List.replicate (6 - (lg_sl ([.ref h, .int (nI x), .int (nI w), .int (nI g)])).length) Slot.unset).toArray = ls at hl ⊢
  refine w_Q (fun Q hQ => ?_)
  have hl : lv_has ls 6 [(0, .ref h), (1, .int (nI x)), (2, .int (nI w)), (3, .int (nI g))] := hl
  rw [fX3_orderNeighbours] at hF
  refine lv_iconst (v := 0) hx hb dX3_orderNeighbours_0 (by decide) ?_
  refine lv_istore (lv' := [(4, .int 0), (0, .ref h), (1, .int (nI x)), (2, .int (nI w)), (3, .int (nI g))]) hx hb dX3_orderNeighbours_1 hl (by decide) rfl (fun ls hl => ?_)
  refine lv_iload_n hx hb dX3_orderNeighbours_3 rfl (lv_at hl 4 rfl) ?_
  refine lv_iconst (v := 1) hx hb dX3_orderNeighbours_4 (by decide) ?_
  refine lv_iadd hx hb dX3_orderNeighbours_5 ?_
  rw [nI_1]
  refine lv_istore (lv' := [(5, .int (nI (g + 1))), (4, .int 0), (0, .ref h), (1, .int (nI x)), (2, .int (nI w)), (3, .int (nI g))]) hx hb dX3_orderNeighbours_6 hl (by decide) rfl (fun ls hl => ?_)
  have lp8 : ∀ (r8 k8 : Nat) (x4 : Nat) (od : Nat → Int32) (H : Heap) (locs : List Loc) (ls : Array Slot), r8 = (g + w + 1) - k8 → k8 ≤ g + w + 2 → g + 1 ≤ k8 → x4 ≤ 2 * (k8 - (g + 1)) → va_P D vwCl [(h, .inr (2, [.ref tn, .int (nI wn), .ref td])), (tn, .inl (cI, 64, .inl rw)), (td, .inl (cI, 16, .inl od))] H → va_D A [(h, .inr (2, [.ref tn, .int (nI wn), .ref td])), (tn, .inl (cI, 64, .inl rw)), (td, .inl (cI, 16, .inl od))] → va_S A s.heap H locs → lv_has ls 6 [(0, .ref h), (1, .int (nI x)), (2, .int (nI w)), (3, .int (nI g)), (4, .int (nI x4)), (5, .int (nI k8))] → F_X3_orderNeighbours_8 rw wn x r8 k8 x4 od = T → W p l e (headSpec wsX3_orderNeighbours rmX3_orderNeighbours).room s m ([.ref h, .int (nI x), .int (nI w), .int (nI g)] : List Value).toArray below meth c H locs 0 0 Q (F0 m 8 ls []) := by
    intro r8
    induction r8 with
    | zero =>
      intro k8 x4 od H locs ls hi8_0 hi8_1 hi8_2 hi8_3 hP hD hS hl hF
      rw [F_X3_orderNeighbours_8] at hF
      refine lv_iload hx hb dX3_orderNeighbours_8 (lv_at hl 5 rfl) ?_
      refine lv_iload_n hx hb dX3_orderNeighbours_10 rfl (lv_at hl 3 rfl) ?_
      refine lv_iload_n hx hb dX3_orderNeighbours_11 rfl (lv_at hl 2 rfl) ?_
      refine lv_iadd hx hb dX3_orderNeighbours_12 ?_
      refine lv_icmp_gt (tgt := 76) hx hb dX3_orderNeighbours_13 (by decide) (fun c13 => ?_) (fun c13 => ?_)
      · skip
        refine lv_iload hx hb dX3_orderNeighbours_76 (lv_at hl 4 rfl) ?_
        subst hF
        subst hQ
        exact W.iret (v := nI x4) hx hb hr (fun u9 ht hW => ⟨⟨_, (), rfl, rfl, by rw [← ht] at hP; exact hP⟩, hS.F ht⟩) hS.2.2 dX3_orderNeighbours_78
      · exact False.elim (c13 (by rw [nI_add]; exact nI_lt (by omega) (by omega)))
    | succ r8 ih8 =>
      intro k8 x4 od H locs ls hi8_0 hi8_1 hi8_2 hi8_3 hP hD hS hl hF
      rw [F_X3_orderNeighbours_8] at hF
      refine lv_iload hx hb dX3_orderNeighbours_8 (lv_at hl 5 rfl) ?_
      refine lv_iload_n hx hb dX3_orderNeighbours_10 rfl (lv_at hl 3 rfl) ?_
      refine lv_iload_n hx hb dX3_orderNeighbours_11 rfl (lv_at hl 2 rfl) ?_
      refine lv_iadd hx hb dX3_orderNeighbours_12 ?_
      refine lv_icmp_gt (tgt := 76) hx hb dX3_orderNeighbours_13 (by decide) (fun c13 => ?_) (fun c13 => ?_)
      · exact False.elim ((by rw [nI_add] at c13; exact nI_nlt (by omega) (by omega) c13))
      · skip
        refine lv_iload_n hx hb dX3_orderNeighbours_16 rfl (lv_at hl 1 rfl) ?_
        refine lv_iload hx hb dX3_orderNeighbours_17 (lv_at hl 5 rfl) ?_
        refine lv_isub hx hb dX3_orderNeighbours_19 ?_
        refine lv_if_lt (tgt := 41) hx hb dX3_orderNeighbours_20 (by decide) (fun c20 => ?_) (fun c20 => ?_)
        · rw [if_pos c20] at hF
          refine lv_iload_n hx hb dX3_orderNeighbours_41 rfl (lv_at hl 1 rfl) ?_
          refine lv_iload hx hb dX3_orderNeighbours_42 (lv_at hl 5 rfl) ?_
          refine lv_iadd hx hb dX3_orderNeighbours_44 ?_
          refine lv_aload_n hx hb dX3_orderNeighbours_45 rfl (lv_at hl 0 rfl) ?_
          refine va_get (D := D) (ci := 2) (v := .int (nI wn)) (C := RX3) (T := TX3) (N := 3) hx hb hts hinX3 hown hK.1 hP 0 rfl rfl 1 (by decide) hf13 (fun _ h9 => h9) rfl dX3_orderNeighbours_46 ?_
          refine lv_icmp_ge (tgt := 70) hx hb dX3_orderNeighbours_49 (by decide) (fun c49 => ?_) (fun c49 => ?_)
          · rw [if_pos c49] at hF
            refine lv_iinc (v := nI (k8 + 1)) (lv' := [(5, .int (nI (k8 + 1))), (0, .ref h), (1, .int (nI x)), (2, .int (nI w)), (3, .int (nI g)), (4, .int (nI x4))]) hx hb dX3_orderNeighbours_70 hl (k := 5) rfl (nI_1 _) (by decide) rfl (fun ls hl => ?_)
            refine lv_goto (tgt := 8) hx hb dX3_orderNeighbours_73 (by decide) ?_
            exact ih8 (k8 + 1) x4 od H locs ls (by omega) (by omega) (by omega) (by omega) hP hD hS (lv_sub hl [1, 2, 3, 4, 5, 0] rfl) hF
          · rw [if_neg c49] at hF
            refine lv_aload_n hx hb dX3_orderNeighbours_52 rfl (lv_at hl 0 rfl) ?_
            refine lv_aload_n hx hb dX3_orderNeighbours_53 rfl (lv_at hl 0 rfl) ?_
            refine va_get (D := D) (ci := 2) (v := .ref tn) (C := RX3) (T := TX3) (N := 3) hx hb hts hinX3 hown hK.1 hP 0 rfl rfl 0 (by decide) hf9 (fun _ h9 => h9) rfl dX3_orderNeighbours_54 ?_
            refine lv_iload_n hx hb dX3_orderNeighbours_57 rfl (lv_at hl 1 rfl) ?_
            refine lv_iload hx hb dX3_orderNeighbours_58 (lv_at hl 5 rfl) ?_
            refine lv_iadd hx hb dX3_orderNeighbours_60 ?_
            have q49 : x + k8 < wn := by rw [nI_add] at c49; exact Nat.lt_of_not_le (fun h => c49 (nI_le h (by omega)))
            refine w_ald hx hb hK hP 1 0 rfl rfl (x + k8) (nI_add _ _) (by omega) (by omega) dX3_orderNeighbours_61 ?_
            refine lv_iload hx hb dX3_orderNeighbours_62 (lv_at hl 4 rfl) ?_
            refine cw_v (va_runV (As := [.int (rw (x + k8)), .int (nI x4)]) (rest := []) ⟨hx, hb, hml, hown, hts⟩ (c_X3_insert l D cI H.size h tn td rw wn od (rw (x + k8)) x4 (by first | assumption | omega)) (cwV 2 hts gX3_orderNeighbours_X3_insert rfl rfl rfl (by decide +kernel) ⟨(Nat.le_of_ble_eq_true rfl), (Nat.le_of_ble_eq_true rfl)⟩) (wr_preV hP hD hK rfl (q0 := 0) rfl) rfl rfl hl.1 rfl (lv_room (Nat.le_of_ble_eq_true rfl)) dX3_orderNeighbours_64 ⟨Nat.zero_le _, Nat.zero_le _⟩) hP hD hS hA [0, 1, 2] rfl rfl (fun H locs hP hD hS => ?_)
            have hP : va_P D vwCl [(h, .inr (2, [.ref tn, .int (nI wn), .ref td])), (tn, .inl (cI, 64, .inl rw)), (td, .inl (cI, 16, .inl (fX3_insert od (rw (x + k8)) x4)))] H := hP
            have hD : va_D A [(h, .inr (2, [.ref tn, .int (nI wn), .ref td])), (tn, .inl (cI, 64, .inl rw)), (td, .inl (cI, 16, .inl (fX3_insert od (rw (x + k8)) x4)))] := hD
            refine lv_iinc (v := nI (x4 + 1)) (lv' := [(4, .int (nI (x4 + 1))), (0, .ref h), (1, .int (nI x)), (2, .int (nI w)), (3, .int (nI g)), (5, .int (nI k8))]) hx hb dX3_orderNeighbours_67 hl (k := 4) rfl (nI_1 _) (by decide) rfl (fun ls hl => ?_)
            refine lv_iinc (v := nI (k8 + 1)) (lv' := [(5, .int (nI (k8 + 1))), (4, .int (nI (x4 + 1))), (0, .ref h), (1, .int (nI x)), (2, .int (nI w)), (3, .int (nI g))]) hx hb dX3_orderNeighbours_70 hl (k := 5) rfl (nI_1 _) (by decide) rfl (fun ls hl => ?_)
            refine lv_goto (tgt := 8) hx hb dX3_orderNeighbours_73 (by decide) ?_
            exact ih8 (k8 + 1) (x4 + 1) (fX3_insert od (rw (x + k8)) x4) H locs ls (by omega) (by omega) (by omega) (by omega) hP hD hS (lv_sub hl [2, 3, 4, 5, 1, 0] rfl) hF
        · rw [if_neg c20] at hF
          refine lv_aload_n hx hb dX3_orderNeighbours_23 rfl (lv_at hl 0 rfl) ?_
          refine lv_aload_n hx hb dX3_orderNeighbours_24 rfl (lv_at hl 0 rfl) ?_
          refine va_get (D := D) (ci := 2) (v := .ref tn) (C := RX3) (T := TX3) (N := 3) hx hb hts hinX3 hown hK.1 hP 0 rfl rfl 0 (by decide) hf9 (fun _ h9 => h9) rfl dX3_orderNeighbours_25 ?_
          refine lv_iload_n hx hb dX3_orderNeighbours_28 rfl (lv_at hl 1 rfl) ?_
          refine lv_iload hx hb dX3_orderNeighbours_29 (lv_at hl 5 rfl) ?_
          refine lv_isub hx hb dX3_orderNeighbours_31 ?_
          have q20 : k8 ≤ x := Nat.le_of_not_lt (fun h => c20 (pk_sneg (by omega) h))
          refine w_ald hx hb hK hP 1 0 rfl rfl (x - k8) (pk_sub q20) (by omega) (by omega) dX3_orderNeighbours_32 ?_
          refine lv_iload hx hb dX3_orderNeighbours_33 (lv_at hl 4 rfl) ?_
          refine cw_v (va_runV (As := [.int (rw (x - k8)), .int (nI x4)]) (rest := []) ⟨hx, hb, hml, hown, hts⟩ (c_X3_insert l D cI H.size h tn td rw wn od (rw (x - k8)) x4 (by first | assumption | omega)) (cwV 2 hts gX3_orderNeighbours_X3_insert rfl rfl rfl (by decide +kernel) ⟨(Nat.le_of_ble_eq_true rfl), (Nat.le_of_ble_eq_true rfl)⟩) (wr_preV hP hD hK rfl (q0 := 0) rfl) rfl rfl hl.1 rfl (lv_room (Nat.le_of_ble_eq_true rfl)) dX3_orderNeighbours_35 ⟨Nat.zero_le _, Nat.zero_le _⟩) hP hD hS hA [0, 1, 2] rfl rfl (fun H locs hP hD hS => ?_)
          have hP : va_P D vwCl [(h, .inr (2, [.ref tn, .int (nI wn), .ref td])), (tn, .inl (cI, 64, .inl rw)), (td, .inl (cI, 16, .inl (fX3_insert od (rw (x - k8)) x4)))] H := hP
          have hD : va_D A [(h, .inr (2, [.ref tn, .int (nI wn), .ref td])), (tn, .inl (cI, 64, .inl rw)), (td, .inl (cI, 16, .inl (fX3_insert od (rw (x - k8)) x4)))] := hD
          refine lv_iinc (v := nI (x4 + 1)) (lv' := [(4, .int (nI (x4 + 1))), (0, .ref h), (1, .int (nI x)), (2, .int (nI w)), (3, .int (nI g)), (5, .int (nI k8))]) hx hb dX3_orderNeighbours_38 hl (k := 4) rfl (nI_1 _) (by decide) rfl (fun ls hl => ?_)
          refine lv_iload_n hx hb dX3_orderNeighbours_41 rfl (lv_at hl 2 rfl) ?_
          refine lv_iload hx hb dX3_orderNeighbours_42 (lv_at hl 5 rfl) ?_
          refine lv_iadd hx hb dX3_orderNeighbours_44 ?_
          refine lv_aload_n hx hb dX3_orderNeighbours_45 rfl (lv_at hl 1 rfl) ?_
          refine va_get (D := D) (ci := 2) (v := .int (nI wn)) (C := RX3) (T := TX3) (N := 3) hx hb hts hinX3 hown hK.1 hP 0 rfl rfl 1 (by decide) hf13 (fun _ h9 => h9) rfl dX3_orderNeighbours_46 ?_
          refine lv_icmp_ge (tgt := 70) hx hb dX3_orderNeighbours_49 (by decide) (fun c49 => ?_) (fun c49 => ?_)
          · rw [if_pos c49] at hF
            refine lv_iinc (v := nI (k8 + 1)) (lv' := [(5, .int (nI (k8 + 1))), (4, .int (nI (x4 + 1))), (0, .ref h), (1, .int (nI x)), (2, .int (nI w)), (3, .int (nI g))]) hx hb dX3_orderNeighbours_70 hl (k := 5) rfl (nI_1 _) (by decide) rfl (fun ls hl => ?_)
            refine lv_goto (tgt := 8) hx hb dX3_orderNeighbours_73 (by decide) ?_
            exact ih8 (k8 + 1) (x4 + 1) (fX3_insert od (rw (x - k8)) x4) H locs ls (by omega) (by omega) (by omega) (by omega) hP hD hS (lv_sub hl [2, 3, 4, 5, 1, 0] rfl) hF
          · rw [if_neg c49] at hF
            refine lv_aload_n hx hb dX3_orderNeighbours_52 rfl (lv_at hl 1 rfl) ?_
            refine lv_aload_n hx hb dX3_orderNeighbours_53 rfl (lv_at hl 1 rfl) ?_
            refine va_get (D := D) (ci := 2) (v := .ref tn) (C := RX3) (T := TX3) (N := 3) hx hb hts hinX3 hown hK.1 hP 0 rfl rfl 0 (by decide) hf9 (fun _ h9 => h9) rfl dX3_orderNeighbours_54 ?_
            refine lv_iload_n hx hb dX3_orderNeighbours_57 rfl (lv_at hl 2 rfl) ?_
            refine lv_iload hx hb dX3_orderNeighbours_58 (lv_at hl 5 rfl) ?_
            refine lv_iadd hx hb dX3_orderNeighbours_60 ?_
            have q49 : x + k8 < wn := by rw [nI_add] at c49; exact Nat.lt_of_not_le (fun h => c49 (nI_le h (by omega)))
            refine w_ald hx hb hK hP 1 0 rfl rfl (x + k8) (nI_add _ _) (by omega) (by omega) dX3_orderNeighbours_61 ?_
            refine lv_iload hx hb dX3_orderNeighbours_62 (lv_at hl 0 rfl) ?_
            refine cw_v (va_runV (As := [.int (rw (x + k8)), .int (nI (x4 + 1))]) (rest := []) ⟨hx, hb, hml, hown, hts⟩ (c_X3_insert l D cI H.size h tn td rw wn (fX3_insert od (rw (x - k8)) x4) (rw (x + k8)) (x4 + 1) (by first | assumption | omega)) (cwV 2 hts gX3_orderNeighbours_X3_insert rfl rfl rfl (by decide +kernel) ⟨(Nat.le_of_ble_eq_true rfl), (Nat.le_of_ble_eq_true rfl)⟩) (wr_preV hP hD hK rfl (q0 := 0) rfl) rfl rfl hl.1 rfl (lv_room (Nat.le_of_ble_eq_true rfl)) dX3_orderNeighbours_64 ⟨Nat.zero_le _, Nat.zero_le _⟩) hP hD hS hA [0, 1, 2] rfl rfl (fun H locs hP hD hS => ?_)
            have hP : va_P D vwCl [(h, .inr (2, [.ref tn, .int (nI wn), .ref td])), (tn, .inl (cI, 64, .inl rw)), (td, .inl (cI, 16, .inl (fX3_insert (fX3_insert od (rw (x - k8)) x4) (rw (x + k8)) (x4 + 1))))] H := hP
            have hD : va_D A [(h, .inr (2, [.ref tn, .int (nI wn), .ref td])), (tn, .inl (cI, 64, .inl rw)), (td, .inl (cI, 16, .inl (fX3_insert (fX3_insert od (rw (x - k8)) x4) (rw (x + k8)) (x4 + 1))))] := hD
            refine lv_iinc (v := nI ((x4 + 1) + 1)) (lv' := [(4, .int (nI ((x4 + 1) + 1))), (0, .ref h), (1, .int (nI x)), (2, .int (nI w)), (3, .int (nI g)), (5, .int (nI k8))]) hx hb dX3_orderNeighbours_67 hl (k := 0) rfl (nI_1 _) (by decide) rfl (fun ls hl => ?_)
            refine lv_iinc (v := nI (k8 + 1)) (lv' := [(5, .int (nI (k8 + 1))), (4, .int (nI ((x4 + 1) + 1))), (0, .ref h), (1, .int (nI x)), (2, .int (nI w)), (3, .int (nI g))]) hx hb dX3_orderNeighbours_70 hl (k := 5) rfl (nI_1 _) (by decide) rfl (fun ls hl => ?_)
            refine lv_goto (tgt := 8) hx hb dX3_orderNeighbours_73 (by decide) ?_
            exact ih8 (k8 + 1) ((x4 + 1) + 1) (fX3_insert (fX3_insert od (rw (x - k8)) x4) (rw (x + k8)) (x4 + 1)) H locs ls (by omega) (by omega) (by omega) (by omega) hP hD hS (lv_sub hl [2, 3, 4, 5, 1, 0] rfl) hF
  exact lp8 ((g + w + 1) - (g + 1)) (g + 1) 0 od s.heap _ ls rfl (by omega) (by omega) (by omega) hP hD hS (lv_sub hl [2, 3, 4, 5, 1, 0] rfl) hF
def fX3_standsOut (rw : Nat → Int32) (wn : Nat) (od : Nat → Int32) (x : Nat) (w : Nat) (g : Nat) (k : Nat) (sc : Int32) : Int32 × (Nat → Int32) := (if ((fX3_orderNeighbours rw wn od x w g).1) < (nI k) then (0, (fX3_orderNeighbours rw wn od x w g).2) else (if (10 * (rw x)) ≤ (sc * (((fX3_orderNeighbours rw wn od x w g).2) (k - 1))) then (0, (fX3_orderNeighbours rw wn od x w g).2) else (1, (fX3_orderNeighbours rw wn od x w g).2)))
abbrev rmX3_standsOut : Room := { frames := 2, cells := 0, slots := 0, locals := 48 }
set_option maxHeartbeats 4000000 in
set_option maxRecDepth 100000 in
theorem c_X3_standsOut (l : Launch) (D : va_G) (cI : ClassId) (sz : Nat) (h : Nat) (tn : Nat) (td : Nat) (rw : Nat → Int32) (wn : Nat) (od : Nat → Int32) (x : Nat) (w : Nat) (g : Nat) (k : Nat) (sc : Int32) (hwn : wn ≤ 64) (hx0 : x < 64) (hw : w ≤ 8) (hg : g ≤ 3) (hk1 : 1 ≤ k) (hk : k ≤ 8) : Met l yX3_standsOut wsX3_standsOut rmX3_standsOut (va_Pc [.ref h, .int (nI x), .int (nI w), .int (nI g), .int (nI k), .int sc] (wrP D [(cI, .int)] [(h, .inr (2, [.ref tn, .int (nI wn), .ref td])), (tn, .inl (cI, 64, .inl rw)), (td, .inl (cI, 16, .inl od))] sz)) (va_Qi (fun r9 (_ : Unit) => r9 = (fX3_standsOut rw wn od x w g k sc).1) (fun _ u9 => va_P D vwCl [(h, .inr (2, [.ref tn, .int (nI wn), .ref td])), (tn, .inl (cI, 64, .inl rw)), (td, .inl (cI, 16, .inl ((fX3_standsOut rw wn od x w g k sc).2)))] u9.heap) (va_A [(h, .inr (2, [.ref tn, .int (nI wn), .ref td])), (tn, .inl (cI, 64, .inl rw)), (td, .inl (cI, 16, .inl od))] sz)) 0 0 (va_A [(h, .inr (2, [.ref tn, .int (nI wn), .ref td])), (tn, .inl (cI, 64, .inl rw)), (td, .inl (cI, 16, .inl od))] sz) := by
  generalize hF : fX3_standsOut rw wn od x w g k sc = T
  refine Met.ofW (cc := cX3_standsOut) (maxL := 7) (ret := (some .boolean)) (by decide) rfl ?_
  intro p e s m args below meth c s₁ B hml hv
  obtain ⟨rfl, hsz, hP, hK, hD0⟩ := hv
  have hx := B.exec
  have hb := B.bytes
  have hr := B.returns
  have hts := atoms_spec (ws := wsX3_standsOut) B.pre
  have hown : s.vm.findClass RX3 = some m.cls := findClass_of_methodNamed B.named
  have hlocks := B.notSynchronized
  have hinX3 : ∀ w ∈ u_ws RX3 TX3 3, w ∈ wsX3_standsOut := by decide +kernel
  have hf9 := hts (.fieldLink RX3 9 "PulseSigns$Row" "numbers" "[I") (by decide +kernel)
  have hf17 := hts (.fieldLink RX3 17 "PulseSigns$Row" "ordered" "[I") (by decide +kernel)
  subst hsz
  have hD := hD0.self (sz := s.heap.size)
  generalize hAe : va_A [(h, .inr (2, [.ref tn, .int (nI wn), .ref td])), (tn, .inl (cI, 64, .inl rw)), (td, .inl (cI, 16, .inl od))] s.heap.size = A at hD ⊢
  have hA : ∀ q : Nat, s.heap.size ≤ q → A q := fun q h => by rw [← hAe]; exact Or.inr h
  have hS : va_S A s.heap s.heap [] := va_S.rf
  have hP : va_P D vwCl [(h, .inr (2, [.ref tn, .int (nI wn), .ref td])), (tn, .inl (cI, 64, .inl rw)), (td, .inl (cI, 16, .inl od))] s.heap := hP
  have hl := lv_entry ([.ref h, .int (nI x), .int (nI w), .int (nI g), .int (nI k), .int sc]) (n := 7) (Nat.le_of_ble_eq_true rfl)
  rw [lg_entry_eq]
  generalize (lg_sl ([.ref h, .int (nI x), .int (nI w), .int (nI g), .int (nI k), .int sc]) ++ List.replicate (7 - (lg_sl ([.ref h, .int (nI x), .int (nI w), .int (nI g), .int (nI k), .int sc])).length) Slot.unset).toArray = ls at hl ⊢
  refine w_Q (fun Q hQ => ?_)
  have hl : lv_has ls 7 [(0, .ref h), (1, .int (nI x)), (2, .int (nI w)), (3, .int (nI g)), (4, .int (nI k)), (5, .int sc)] := hl
  rw [fX3_standsOut] at hF
  refine lv_aload_n hx hb dX3_standsOut_0 rfl (lv_at hl 0 rfl) ?_
  refine lv_iload_n hx hb dX3_standsOut_1 rfl (lv_at hl 1 rfl) ?_
  refine lv_iload_n hx hb dX3_standsOut_2 rfl (lv_at hl 2 rfl) ?_
  refine lv_iload_n hx hb dX3_standsOut_3 rfl (lv_at hl 3 rfl) ?_
  refine cw_i (va_runV (As := [.int (nI x), .int (nI w), .int (nI g)]) (rest := []) ⟨hx, hb, hml, hown, hts⟩ (c_X3_orderNeighbours l D cI s.heap.size h tn td rw wn od x w g (by first | assumption | omega) (by first | assumption | omega) (by first | assumption | omega) (by first | assumption | omega)) (cwV 3 hts gX3_standsOut_X3_orderNeighbours rfl rfl rfl (by decide +kernel) ⟨(Nat.le_of_ble_eq_true rfl), (Nat.le_of_ble_eq_true rfl)⟩) (wr_preV hP hD hK rfl (q0 := 0) rfl) rfl rfl hl.1 rfl (lv_room (Nat.le_of_ble_eq_true rfl)) dX3_standsOut_4 ⟨Nat.zero_le _, Nat.zero_le _⟩) hP hD hS hA [0, 1, 2] rfl rfl (fun H locs hP hD hS => ?_)
  have hP : va_P D vwCl [(h, .inr (2, [.ref tn, .int (nI wn), .ref td])), (tn, .inl (cI, 64, .inl rw)), (td, .inl (cI, 16, .inl ((fX3_orderNeighbours rw wn od x w g).2)))] H := hP
  have hD : va_D A [(h, .inr (2, [.ref tn, .int (nI wn), .ref td])), (tn, .inl (cI, 64, .inl rw)), (td, .inl (cI, 16, .inl ((fX3_orderNeighbours rw wn od x w g).2)))] := hD
  refine lv_istore (lv' := [(6, .int ((fX3_orderNeighbours rw wn od x w g).1)), (0, .ref h), (1, .int (nI x)), (2, .int (nI w)), (3, .int (nI g)), (4, .int (nI k)), (5, .int sc)]) hx hb dX3_standsOut_7 hl (by decide) rfl (fun ls hl => ?_)
  refine lv_iload hx hb dX3_standsOut_9 (lv_at hl 0 rfl) ?_
  refine lv_iload hx hb dX3_standsOut_11 (lv_at hl 5 rfl) ?_
  refine lv_icmp_lt (tgt := 44) hx hb dX3_standsOut_13 (by decide) (fun c13 => ?_) (fun c13 => ?_)
  · rw [if_pos c13] at hF
    refine lv_iconst (v := 0) hx hb dX3_standsOut_44 (by decide) ?_
    subst hF
    subst hQ
    exact W.zret (v := 0) (ty := .boolean) hx hb hr rfl (fun u9 ht hW => ⟨⟨_, (), rfl, rfl, by rw [← ht] at hP; exact hP⟩, hS.F ht⟩) hS.2.2 dX3_standsOut_45
  · rw [if_neg c13] at hF
    refine lv_bipush (v := 10) hx hb dX3_standsOut_16 (by decide) ?_
    refine lv_aload_n hx hb dX3_standsOut_18 rfl (lv_at hl 1 rfl) ?_
    refine va_get (D := D) (ci := 2) (v := .ref tn) (C := RX3) (T := TX3) (N := 3) hx hb hts hinX3 hown hK.1 hP 0 rfl rfl 0 (by decide) hf9 (fun _ h9 => h9) rfl dX3_standsOut_19 ?_
    refine lv_iload_n hx hb dX3_standsOut_22 rfl (lv_at hl 2 rfl) ?_
    refine w_ald hx hb hK hP 1 0 rfl rfl (x) rfl (by omega) (by omega) dX3_standsOut_23 ?_
    refine lv_imul hx hb dX3_standsOut_24 ?_
    refine lv_iload hx hb dX3_standsOut_25 (lv_at hl 6 rfl) ?_
    refine lv_aload_n hx hb dX3_standsOut_27 rfl (lv_at hl 1 rfl) ?_
    refine va_get (D := D) (ci := 2) (v := .ref td) (C := RX3) (T := TX3) (N := 3) hx hb hts hinX3 hown hK.1 hP 0 rfl rfl 2 (by decide) hf17 (fun _ h9 => h9) rfl dX3_standsOut_28 ?_
    refine lv_iload hx hb dX3_standsOut_31 (lv_at hl 5 rfl) ?_
    refine lv_iconst (v := 1) hx hb dX3_standsOut_33 (by decide) ?_
    refine lv_isub hx hb dX3_standsOut_34 ?_
    refine w_ald hx hb hK hP 2 0 rfl rfl (k - 1) (pk_sub (b := 1) (by omega)) (by omega) (by omega) dX3_standsOut_35 ?_
    refine lv_imul hx hb dX3_standsOut_36 ?_
    refine lv_icmp_le (tgt := 44) hx hb dX3_standsOut_37 (by decide) (fun c37 => ?_) (fun c37 => ?_)
    · rw [if_pos c37] at hF
      refine lv_iconst (v := 0) hx hb dX3_standsOut_44 (by decide) ?_
      subst hF
      subst hQ
      exact W.zret (v := 0) (ty := .boolean) hx hb hr rfl (fun u9 ht hW => ⟨⟨_, (), rfl, rfl, by rw [← ht] at hP; exact hP⟩, hS.F ht⟩) hS.2.2 dX3_standsOut_45
    · rw [if_neg c37] at hF
      refine lv_iconst (v := 1) hx hb dX3_standsOut_40 (by decide) ?_
      refine lv_goto (tgt := 45) hx hb dX3_standsOut_41 (by decide) ?_
      subst hF
      subst hQ
      exact W.zret (v := 1) (ty := .boolean) hx hb hr rfl (fun u9 ht hW => ⟨⟨_, (), rfl, rfl, by rw [← ht] at hP; exact hP⟩, hS.F ht⟩) hS.2.2 dX3_standsOut_45
def F_X3_standingOut_6 (rw : Nat → Int32) (wn : Nat) (w : Nat) (g : Nat) (k : Nat) (sc : Int32) : Nat → Nat → Int32 → (Nat → Int32) → (Int32 × (Nat → Int32))
  | 0, k6, x5, od => (x5, od)
  | r6 + 1, k6, x5, od => (if ((fX3_standsOut rw wn od k6 w g k sc).1) = 0 then F_X3_standingOut_6 rw wn w g k sc r6 (k6 + 1) x5 ((fX3_standsOut rw wn od k6 w g k sc).2) else F_X3_standingOut_6 rw wn w g k sc r6 (k6 + 1) (x5 + 1) ((fX3_standsOut rw wn od k6 w g k sc).2))
def fX3_standingOut (rw : Nat → Int32) (wn : Nat) (od : Nat → Int32) (w : Nat) (g : Nat) (k : Nat) (sc : Int32) : Int32 × (Nat → Int32) := F_X3_standingOut_6 rw wn w g k sc (wn - 0) 0 0 od
abbrev rmX3_standingOut : Room := { frames := 3, cells := 0, slots := 0, locals := 74 }
set_option maxHeartbeats 4000000 in
set_option maxRecDepth 100000 in
theorem c_X3_standingOut (l : Launch) (D : va_G) (cI : ClassId) (sz : Nat) (h : Nat) (tn : Nat) (td : Nat) (rw : Nat → Int32) (wn : Nat) (od : Nat → Int32) (w : Nat) (g : Nat) (k : Nat) (sc : Int32) (hwn : wn ≤ 64) (hw : w ≤ 8) (hg : g ≤ 3) (hk1 : 1 ≤ k) (hk : k ≤ 8) : Met l yX3_standingOut wsX3_standingOut rmX3_standingOut (va_Pc [.ref h, .int (nI w), .int (nI g), .int (nI k), .int sc] (wrP D [(cI, .int)] [(h, .inr (2, [.ref tn, .int (nI wn), .ref td])), (tn, .inl (cI, 64, .inl rw)), (td, .inl (cI, 16, .inl od))] sz)) (va_Qi (fun r9 (_ : Unit) => r9 = (fX3_standingOut rw wn od w g k sc).1) (fun _ u9 => va_P D vwCl [(h, .inr (2, [.ref tn, .int (nI wn), .ref td])), (tn, .inl (cI, 64, .inl rw)), (td, .inl (cI, 16, .inl ((fX3_standingOut rw wn od w g k sc).2)))] u9.heap) (va_A [(h, .inr (2, [.ref tn, .int (nI wn), .ref td])), (tn, .inl (cI, 64, .inl rw)), (td, .inl (cI, 16, .inl od))] sz)) 0 0 (va_A [(h, .inr (2, [.ref tn, .int (nI wn), .ref td])), (tn, .inl (cI, 64, .inl rw)), (td, .inl (cI, 16, .inl od))] sz) := by
  generalize hF : fX3_standingOut rw wn od w g k sc = T
  refine Met.ofW (cc := cX3_standingOut) (maxL := 7) (ret := (some .int)) (by decide) rfl ?_
  intro p e s m args below meth c s₁ B hml hv
  obtain ⟨rfl, hsz, hP, hK, hD0⟩ := hv
  have hx := B.exec
  have hb := B.bytes
  have hr := B.returns
  have hts := atoms_spec (ws := wsX3_standingOut) B.pre
  have hown : s.vm.findClass RX3 = some m.cls := findClass_of_methodNamed B.named
  have hlocks := B.notSynchronized
  have hinX3 : ∀ w ∈ u_ws RX3 TX3 3, w ∈ wsX3_standingOut := by decide +kernel
  have hf13 := hts (.fieldLink RX3 13 "PulseSigns$Row" "length" "I") (by decide +kernel)
  subst hsz
  have hD := hD0.self (sz := s.heap.size)
  generalize hAe : va_A [(h, .inr (2, [.ref tn, .int (nI wn), .ref td])), (tn, .inl (cI, 64, .inl rw)), (td, .inl (cI, 16, .inl od))] s.heap.size = A at hD ⊢
  have hA : ∀ q : Nat, s.heap.size ≤ q → A q := fun q h => by rw [← hAe]; exact Or.inr h
  have hS : va_S A s.heap s.heap [] := va_S.rf
  have hP : va_P D vwCl [(h, .inr (2, [.ref tn, .int (nI wn), .ref td])), (tn, .inl (cI, 64, .inl rw)), (td, .inl (cI, 16, .inl od))] s.heap := hP
  have hl := lv_entry ([.ref h, .int (nI w), .int (nI g), .int (nI k), .int sc]) (n := 7) (Nat.le_of_ble_eq_true rfl)
  rw [lg_entry_eq]
  generalize (lg_sl ([.ref h, .int (nI w), .int (nI g), .int (nI k), .int sc]) ++ List.replicate (7 - (lg_sl ([.ref h, .int (nI w), .int (nI g), .int (nI k), .int sc])).length) Slot.unset).toArray = ls at hl ⊢
  refine w_Q (fun Q hQ => ?_)
  have hl : lv_has ls 7 [(0, .ref h), (1, .int (nI w)), (2, .int (nI g)), (3, .int (nI k)), (4, .int sc)] := hl
  rw [fX3_standingOut] at hF
  refine lv_iconst (v := 0) hx hb dX3_standingOut_0 (by decide) ?_
  refine lv_istore (lv' := [(5, .int 0), (0, .ref h), (1, .int (nI w)), (2, .int (nI g)), (3, .int (nI k)), (4, .int sc)]) hx hb dX3_standingOut_1 hl (by decide) rfl (fun ls hl => ?_)
  refine lv_iconst (v := 0) hx hb dX3_standingOut_3 (by decide) ?_
  refine lv_istore (lv' := [(6, .int 0), (5, .int 0), (0, .ref h), (1, .int (nI w)), (2, .int (nI g)), (3, .int (nI k)), (4, .int sc)]) hx hb dX3_standingOut_4 hl (by decide) rfl (fun ls hl => ?_)
  have lp6 : ∀ (r6 k6 : Nat) (x5 : Int32) (od : Nat → Int32) (H : Heap) (locs : List Loc) (ls : Array Slot), r6 = wn - k6 → k6 ≤ wn + 1 → va_P D vwCl [(h, .inr (2, [.ref tn, .int (nI wn), .ref td])), (tn, .inl (cI, 64, .inl rw)), (td, .inl (cI, 16, .inl od))] H → va_D A [(h, .inr (2, [.ref tn, .int (nI wn), .ref td])), (tn, .inl (cI, 64, .inl rw)), (td, .inl (cI, 16, .inl od))] → va_S A s.heap H locs → lv_has ls 7 [(0, .ref h), (1, .int (nI w)), (2, .int (nI g)), (3, .int (nI k)), (4, .int sc), (5, .int x5), (6, .int (nI k6))] → F_X3_standingOut_6 rw wn w g k sc r6 k6 x5 od = T → W p l e (headSpec wsX3_standingOut rmX3_standingOut).room s m ([.ref h, .int (nI w), .int (nI g), .int (nI k), .int sc] : List Value).toArray below meth c H locs 0 0 Q (F0 m 6 ls []) := by
    intro r6
    induction r6 with
    | zero =>
      intro k6 x5 od H locs ls hi6_0 hi6_1 hP hD hS hl hF
      rw [F_X3_standingOut_6] at hF
      refine lv_iload hx hb dX3_standingOut_6 (lv_at hl 6 rfl) ?_
      refine lv_aload_n hx hb dX3_standingOut_8 rfl (lv_at hl 0 rfl) ?_
      refine va_get (D := D) (ci := 2) (v := .int (nI wn)) (C := RX3) (T := TX3) (N := 3) hx hb hts hinX3 hown hK.1 hP 0 rfl rfl 1 (by decide) hf13 (fun _ h9 => h9) rfl dX3_standingOut_9 ?_
      refine lv_icmp_ge (tgt := 38) hx hb dX3_standingOut_12 (by decide) (fun c12 => ?_) (fun c12 => ?_)
      · skip
        refine lv_iload hx hb dX3_standingOut_38 (lv_at hl 5 rfl) ?_
        subst hF
        subst hQ
        exact W.iret (v := x5) hx hb hr (fun u9 ht hW => ⟨⟨_, (), rfl, rfl, by rw [← ht] at hP; exact hP⟩, hS.F ht⟩) hS.2.2 dX3_standingOut_40
      · exact False.elim (c12 (nI_le (a := wn) (b := k6) (by omega) (by omega)))
    | succ r6 ih6 =>
      intro k6 x5 od H locs ls hi6_0 hi6_1 hP hD hS hl hF
      rw [F_X3_standingOut_6] at hF
      refine lv_iload hx hb dX3_standingOut_6 (lv_at hl 6 rfl) ?_
      refine lv_aload_n hx hb dX3_standingOut_8 rfl (lv_at hl 0 rfl) ?_
      refine va_get (D := D) (ci := 2) (v := .int (nI wn)) (C := RX3) (T := TX3) (N := 3) hx hb hts hinX3 hown hK.1 hP 0 rfl rfl 1 (by decide) hf13 (fun _ h9 => h9) rfl dX3_standingOut_9 ?_
      refine lv_icmp_ge (tgt := 38) hx hb dX3_standingOut_12 (by decide) (fun c12 => ?_) (fun c12 => ?_)
      · exact False.elim (nI_ge (a := k6) (b := wn) (by omega) (by omega) c12)
      · skip
        refine lv_aload_n hx hb dX3_standingOut_15 rfl (lv_at hl 0 rfl) ?_
        refine lv_iload hx hb dX3_standingOut_16 (lv_at hl 6 rfl) ?_
        refine lv_iload_n hx hb dX3_standingOut_18 rfl (lv_at hl 1 rfl) ?_
        refine lv_iload_n hx hb dX3_standingOut_19 rfl (lv_at hl 2 rfl) ?_
        refine lv_iload_n hx hb dX3_standingOut_20 rfl (lv_at hl 3 rfl) ?_
        refine lv_iload hx hb dX3_standingOut_21 (lv_at hl 4 rfl) ?_
        refine cw_i (va_runV (As := [.int (nI k6), .int (nI w), .int (nI g), .int (nI k), .int sc]) (rest := []) ⟨hx, hb, hml, hown, hts⟩ (c_X3_standsOut l D cI H.size h tn td rw wn od k6 w g k sc (by first | assumption | omega) (by first | assumption | omega) (by first | assumption | omega) (by first | assumption | omega) (by first | assumption | omega) (by first | assumption | omega)) (cwV 5 hts gX3_standingOut_X3_standsOut rfl rfl rfl (by decide +kernel) ⟨(Nat.le_of_ble_eq_true rfl), (Nat.le_of_ble_eq_true rfl)⟩) (wr_preV hP hD hK rfl (q0 := 0) rfl) rfl rfl hl.1 rfl (lv_room (Nat.le_of_ble_eq_true rfl)) dX3_standingOut_23 ⟨Nat.zero_le _, Nat.zero_le _⟩) hP hD hS hA [0, 1, 2] rfl rfl (fun H locs hP hD hS => ?_)
        have hP : va_P D vwCl [(h, .inr (2, [.ref tn, .int (nI wn), .ref td])), (tn, .inl (cI, 64, .inl rw)), (td, .inl (cI, 16, .inl ((fX3_standsOut rw wn od k6 w g k sc).2)))] H := hP
        have hD : va_D A [(h, .inr (2, [.ref tn, .int (nI wn), .ref td])), (tn, .inl (cI, 64, .inl rw)), (td, .inl (cI, 16, .inl ((fX3_standsOut rw wn od k6 w g k sc).2)))] := hD
        refine lv_if_eq (tgt := 32) hx hb dX3_standingOut_26 (by decide) (fun c26 => ?_) (fun c26 => ?_)
        · rw [if_pos c26] at hF
          refine lv_iinc (v := nI (k6 + 1)) (lv' := [(6, .int (nI (k6 + 1))), (0, .ref h), (1, .int (nI w)), (2, .int (nI g)), (3, .int (nI k)), (4, .int sc), (5, .int x5)]) hx hb dX3_standingOut_32 hl (k := 6) rfl (nI_1 _) (by decide) rfl (fun ls hl => ?_)
          refine lv_goto (tgt := 6) hx hb dX3_standingOut_35 (by decide) ?_
          exact ih6 (k6 + 1) x5 ((fX3_standsOut rw wn od k6 w g k sc).2) H locs ls (by omega) (by omega) hP hD hS (lv_sub hl [1, 2, 3, 4, 5, 6, 0] rfl) hF
        · rw [if_neg c26] at hF
          refine lv_iinc (v := x5 + 1) (lv' := [(5, .int (x5 + 1)), (0, .ref h), (1, .int (nI w)), (2, .int (nI g)), (3, .int (nI k)), (4, .int sc), (6, .int (nI k6))]) hx hb dX3_standingOut_29 hl (k := 5) rfl rfl (by decide) rfl (fun ls hl => ?_)
          refine lv_iinc (v := nI (k6 + 1)) (lv' := [(6, .int (nI (k6 + 1))), (5, .int (x5 + 1)), (0, .ref h), (1, .int (nI w)), (2, .int (nI g)), (3, .int (nI k)), (4, .int sc)]) hx hb dX3_standingOut_32 hl (k := 6) rfl (nI_1 _) (by decide) rfl (fun ls hl => ?_)
          refine lv_goto (tgt := 6) hx hb dX3_standingOut_35 (by decide) ?_
          exact ih6 (k6 + 1) (x5 + 1) ((fX3_standsOut rw wn od k6 w g k sc).2) H locs ls (by omega) (by omega) hP hD hS (lv_sub hl [2, 3, 4, 5, 6, 1, 0] rfl) hF
  exact lp6 (wn - 0) 0 0 od s.heap _ ls rfl (by omega) hP hD hS (lv_sub hl [2, 3, 4, 5, 6, 1, 0] rfl) hF
