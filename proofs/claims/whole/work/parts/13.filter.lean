theorem addm1 {a b : Nat} (h : 1 ≤ a + b) : nI a + nI b - 1 = nI (a + b - 1) := by
  rw [nI_add, show (1 : Int32) = nI 1 from rfl, pk_sub h]
def F_X1_reset_7 (n2 : Nat) : Nat → Nat → (Nat → Int32) → (Nat × (Nat → Int32))
  | 0, k7, fl => (n2, fl)
  | r7 + 1, k7, fl => F_X1_reset_7 n2 r7 (k7 + 1) (upd fl k7 0)
def fX1_reset (fl : Nat → Int32) (n2 : Nat) : Nat × (Nat → Int32) := F_X1_reset_7 n2 (n2 - 0) 0 fl
abbrev rmX1_reset : Room := { frames := 0, cells := 0, slots := 0, locals := 0 }
set_option maxHeartbeats 4000000 in
set_option maxRecDepth 100000 in
theorem c_X1_reset (l : Launch) (D : va_G) (cI : ClassId) (sz : Nat) (h : Nat) (t : Nat) (fl : Nat → Int32) (fn : Nat) (n2 : Nat) (hn2 : n2 ≤ 24) : Met l yX1_reset wsX1_reset rmX1_reset (va_Pc [.ref h, .int (nI n2)] (wrP D [(cI, .int)] [(h, .inr (0, [.ref t, .int (nI fn)])), (t, .inl (cI, 24, .inl fl))] sz)) (va_Qv (fun (_ : Unit) => True) (fun _ u9 => va_P D vwCl [(h, .inr (0, [.ref t, .int (nI ((fX1_reset fl n2).1))])), (t, .inl (cI, 24, .inl ((fX1_reset fl n2).2)))] u9.heap) (va_A [(h, .inr (0, [.ref t, .int (nI fn)])), (t, .inl (cI, 24, .inl fl))] sz)) 0 0 (va_A [(h, .inr (0, [.ref t, .int (nI fn)])), (t, .inl (cI, 24, .inl fl))] sz) := by
  generalize hF : fX1_reset fl n2 = T
  refine Met.ofW (cc := cX1_reset) (maxL := 3) (ret := none) (by decide) rfl ?_
  intro p e s m args below meth c s₁ B hml hv
  obtain ⟨rfl, hsz, hP, hK, hD0⟩ := hv
  have hx := B.exec
  have hb := B.bytes
  have hr := B.returns
  have hts := atoms_spec (ws := wsX1_reset) B.pre
  have hown : s.vm.findClass RX1 = some m.cls := findClass_of_methodNamed B.named
  have hlocks := B.notSynchronized
  have hinX1 : ∀ w ∈ u_ws RX1 TX1 2, w ∈ wsX1_reset := by decide +kernel
  have hf13 := hts (.fieldLink RX1 13 "PulseSigns$Filter" "length" "I") (by decide +kernel)
  have hf9 := hts (.fieldLink RX1 9 "PulseSigns$Filter" "numbers" "[I") (by decide +kernel)
  subst hsz
  have hD := hD0.self (sz := s.heap.size)
  generalize hAe : va_A [(h, .inr (0, [.ref t, .int (nI fn)])), (t, .inl (cI, 24, .inl fl))] s.heap.size = A at hD ⊢
  have hA : ∀ q : Nat, s.heap.size ≤ q → A q := fun q h => by rw [← hAe]; exact Or.inr h
  have hS : va_S A s.heap s.heap [] := va_S.rf
  have hP : va_P D vwCl [(h, .inr (0, [.ref t, .int (nI fn)])), (t, .inl (cI, 24, .inl fl))] s.heap := hP
  have hl := lv_entry ([.ref h, .int (nI n2)]) (n := 3) (Nat.le_of_ble_eq_true rfl)
  rw [lg_entry_eq]
  generalize (lg_sl ([.ref h, .int (nI n2)]) ++ List.replicate (3 - (lg_sl ([.ref h, .int (nI n2)])).length) Slot.unset).toArray = ls at hl ⊢
  refine w_Q (fun Q hQ => ?_)
  have hl : lv_has ls 3 [(0, .ref h), (1, .int (nI n2))] := hl
  rw [fX1_reset] at hF
  refine lv_aload_n hx hb dX1_reset_0 rfl (lv_at hl 0 rfl) ?_
  refine lv_iload_n hx hb dX1_reset_1 rfl (lv_at hl 1 rfl) ?_
  refine va_put (D := D) (ci := 0) (v := .int (nI n2)) (ty := .int) (C := RX1) (T := TX1) (N := 2) hx hb hts hinX1 tyX1 tyX1_ok nmX1 hown hK.1 hP hD hS 0 rfl rfl 1 (by decide) hf13 (fun _ h9 => h9) rfl (by decide +kernel) rfl rfl (Nat.le_of_ble_eq_true rfl) dX1_reset_2 (fun H locs hP hD hS => ?_)
  have hP : va_P D vwCl [(h, .inr (0, [.ref t, .int (nI n2)])), (t, .inl (cI, 24, .inl fl))] H := hP
  have hD : va_D A [(h, .inr (0, [.ref t, .int (nI n2)])), (t, .inl (cI, 24, .inl fl))] := hD
  refine lv_iconst (v := 0) hx hb dX1_reset_5 (by decide) ?_
  refine lv_istore_n (lv' := [(2, .int 0), (0, .ref h), (1, .int (nI n2))]) hx hb dX1_reset_6 rfl hl (by decide) rfl (fun ls hl => ?_)
  have lp7 : ∀ (r7 k7 : Nat) (fl : Nat → Int32) (H : Heap) (locs : List Loc) (ls : Array Slot), r7 = n2 - k7 → k7 ≤ n2 + 1 → va_P D vwCl [(h, .inr (0, [.ref t, .int (nI n2)])), (t, .inl (cI, 24, .inl fl))] H → va_D A [(h, .inr (0, [.ref t, .int (nI n2)])), (t, .inl (cI, 24, .inl fl))] → va_S A s.heap H locs → lv_has ls 3 [(0, .ref h), (1, .int (nI n2)), (2, .int (nI k7))] → F_X1_reset_7 n2 r7 k7 fl = T → W p l e (headSpec wsX1_reset rmX1_reset).room s m ([.ref h, .int (nI n2)] : List Value).toArray below meth c H locs 0 0 Q (F0 m 7 ls []) := by
    intro r7
    induction r7 with
    | zero =>
      intro k7 fl H locs ls hi7_0 hi7_1 hP hD hS hl hF
      rw [F_X1_reset_7] at hF
      refine lv_iload_n hx hb dX1_reset_7 rfl (lv_at hl 2 rfl) ?_
      refine lv_iload_n hx hb dX1_reset_8 rfl (lv_at hl 1 rfl) ?_
      refine lv_icmp_ge (tgt := 25) hx hb dX1_reset_9 (by decide) (fun c9 => ?_) (fun c9 => ?_)
      · skip
        subst hF
        subst hQ
        exact W.vret hx hb hr (fun u9 ht hW => ⟨⟨(), rfl, trivial, by rw [← ht] at hP; exact hP⟩, hS.F ht⟩) hS.2.2 dX1_reset_25
      · exact False.elim (c9 (nI_le (a := n2) (b := k7) (by omega) (by omega)))
    | succ r7 ih7 =>
      intro k7 fl H locs ls hi7_0 hi7_1 hP hD hS hl hF
      rw [F_X1_reset_7] at hF
      refine lv_iload_n hx hb dX1_reset_7 rfl (lv_at hl 2 rfl) ?_
      refine lv_iload_n hx hb dX1_reset_8 rfl (lv_at hl 1 rfl) ?_
      refine lv_icmp_ge (tgt := 25) hx hb dX1_reset_9 (by decide) (fun c9 => ?_) (fun c9 => ?_)
      · exact False.elim (nI_ge (a := k7) (b := n2) (by omega) (by omega) c9)
      · skip
        refine lv_aload_n hx hb dX1_reset_12 rfl (lv_at hl 0 rfl) ?_
        refine va_get (D := D) (ci := 0) (v := .ref t) (C := RX1) (T := TX1) (N := 2) hx hb hts hinX1 hown hK.1 hP 0 rfl rfl 0 (by decide) hf9 (fun _ h9 => h9) rfl dX1_reset_13 ?_
        refine lv_iload_n hx hb dX1_reset_16 rfl (lv_at hl 2 rfl) ?_
        refine lv_iconst (v := 0) hx hb dX1_reset_17 (by decide) ?_
        refine w_ast hx hb hK hP hD hS 1 0 rfl rfl (k7) rfl (by omega) (by omega) dX1_reset_18 (fun H locs hP hD hS => ?_)
        have hP : va_P D vwCl [(h, .inr (0, [.ref t, .int (nI n2)])), (t, .inl (cI, 24, .inl (upd fl k7 0)))] H := hP
        have hD : va_D A [(h, .inr (0, [.ref t, .int (nI n2)])), (t, .inl (cI, 24, .inl (upd fl k7 0)))] := hD
        refine lv_iinc (v := nI (k7 + 1)) (lv' := [(2, .int (nI (k7 + 1))), (0, .ref h), (1, .int (nI n2))]) hx hb dX1_reset_19 hl (k := 2) rfl (nI_1 _) (by decide) rfl (fun ls hl => ?_)
        refine lv_goto (tgt := 7) hx hb dX1_reset_22 (by decide) ?_
        exact ih7 (k7 + 1) (upd fl k7 0) H locs ls (by omega) (by omega) hP hD hS (lv_sub hl [1, 2, 0] rfl) hF
  exact lp7 (n2 - 0) 0 fl H _ ls rfl (by omega) hP hD hS (lv_sub hl [1, 2, 0] rfl) hF
def F_X1_matchTo_10 (tr : Nat → Int32) (n : Nat) : Nat → Nat → (Nat → Int32) → (Nat × (Nat → Int32))
  | 0, k10, fl => (n, fl)
  | r10 + 1, k10, fl => F_X1_matchTo_10 tr n r10 (k10 + 1) (upd fl k10 (fX6_partOfTurn (-(tr (n - 1 - k10))) 0))
def fX1_matchTo (fl : Nat → Int32) (tr : Nat → Int32) (n : Nat) : Nat × (Nat → Int32) := F_X1_matchTo_10 tr n (n - 0) 0 fl
abbrev rmX1_matchTo : Room := { frames := 1, cells := 0, slots := 0, locals := 22 }
set_option maxHeartbeats 4000000 in
set_option maxRecDepth 100000 in
theorem c_X1_matchTo (l : Launch) (D : va_G) (cI : ClassId) (sz : Nat) (h : Nat) (t : Nat) (fl : Nat → Int32) (fn : Nat) (h2 : Nat) (t2 : Nat) (tr : Nat → Int32) (n : Nat) (hn : n ≤ 16) : Met l yX1_matchTo wsX1_matchTo rmX1_matchTo (va_Pc [.ref h, .ref h2] (wrP D [(cI, .int)] [(h, .inr (0, [.ref t, .int (nI fn)])), (t, .inl (cI, 24, .inl fl)), (h2, .inr (3, [.ref t2, .int (nI n)])), (t2, .inl (cI, 16, .inl tr))] sz)) (va_Qv (fun (_ : Unit) => True) (fun _ u9 => va_P D vwCl [(h, .inr (0, [.ref t, .int (nI ((fX1_matchTo fl tr n).1))])), (t, .inl (cI, 24, .inl ((fX1_matchTo fl tr n).2))), (h2, .inr (3, [.ref t2, .int (nI n)])), (t2, .inl (cI, 16, .inl tr))] u9.heap) (va_A [(h, .inr (0, [.ref t, .int (nI fn)])), (t, .inl (cI, 24, .inl fl)), (h2, .inr (3, [.ref t2, .int (nI n)])), (t2, .inl (cI, 16, .inl tr))] sz)) 0 0 (va_A [(h, .inr (0, [.ref t, .int (nI fn)])), (t, .inl (cI, 24, .inl fl)), (h2, .inr (3, [.ref t2, .int (nI n)])), (t2, .inl (cI, 16, .inl tr))] sz) := by
  generalize hF : fX1_matchTo fl tr n = T
  refine Met.ofW (cc := cX1_matchTo) (maxL := 3) (ret := none) (by decide) rfl ?_
  intro p e s m args below meth c s₁ B hml hv
  obtain ⟨rfl, hsz, hP, hK, hD0⟩ := hv
  have hx := B.exec
  have hb := B.bytes
  have hr := B.returns
  have hts := atoms_spec (ws := wsX1_matchTo) B.pre
  have hown : s.vm.findClass RX1 = some m.cls := findClass_of_methodNamed B.named
  have hlocks := B.notSynchronized
  have hinX1 : ∀ w ∈ u_ws RX1 TX1 2, w ∈ wsX1_matchTo := by decide +kernel
  have hinX5 : ∀ w ∈ u_ws RX5 TX5 2, w ∈ wsX1_matchTo := by decide +kernel
  have hf17 := hts (.fieldLink RX1 17 "PulseSigns$Sign" "length" "I") (by decide +kernel)
  have hf13 := hts (.fieldLink RX1 13 "PulseSigns$Filter" "length" "I") (by decide +kernel)
  have hf9 := hts (.fieldLink RX1 9 "PulseSigns$Filter" "numbers" "[I") (by decide +kernel)
  have hf20 := hts (.fieldLink RX1 20 "PulseSigns$Sign" "turns" "[I") (by decide +kernel)
  have hiniX6 := hts (.initialized RX6) (by decide +kernel)
  have hst_X6_partOfTurn := hts (.static yX6_partOfTurn) (by decide +kernel)
  subst hsz
  have hD := hD0.self (sz := s.heap.size)
  generalize hAe : va_A [(h, .inr (0, [.ref t, .int (nI fn)])), (t, .inl (cI, 24, .inl fl)), (h2, .inr (3, [.ref t2, .int (nI n)])), (t2, .inl (cI, 16, .inl tr))] s.heap.size = A at hD ⊢
  have hA : ∀ q : Nat, s.heap.size ≤ q → A q := fun q h => by rw [← hAe]; exact Or.inr h
  have hS : va_S A s.heap s.heap [] := va_S.rf
  have hP : va_P D vwCl [(h, .inr (0, [.ref t, .int (nI fn)])), (t, .inl (cI, 24, .inl fl)), (h2, .inr (3, [.ref t2, .int (nI n)])), (t2, .inl (cI, 16, .inl tr))] s.heap := hP
  have hl := lv_entry ([.ref h, .ref h2]) (n := 3) (Nat.le_of_ble_eq_true rfl)
  rw [lg_entry_eq]
  generalize (lg_sl ([.ref h, .ref h2]) ++ List.replicate (3 - (lg_sl ([.ref h, .ref h2])).length) Slot.unset).toArray = ls at hl ⊢
  refine w_Q (fun Q hQ => ?_)
  have hl : lv_has ls 3 [(0, .ref h), (1, .ref h2)] := hl
  rw [fX1_matchTo] at hF
  refine lv_aload_n hx hb dX1_matchTo_0 rfl (lv_at hl 0 rfl) ?_
  refine lv_aload_n hx hb dX1_matchTo_1 rfl (lv_at hl 1 rfl) ?_
  refine va_get (D := D) (ci := 3) (v := .int (nI n)) (C := RX5) (T := TX5) (N := 2) hx hb hts hinX5 hown hK.1 hP 2 rfl rfl 1 (by decide) hf17 (fun _ h9 => h9) rfl dX1_matchTo_2 ?_
  refine va_put (D := D) (ci := 0) (v := .int (nI n)) (ty := .int) (C := RX1) (T := TX1) (N := 2) hx hb hts hinX1 tyX1 tyX1_ok nmX1 hown hK.1 hP hD hS 0 rfl rfl 1 (by decide) hf13 (fun _ h9 => h9) rfl (by decide +kernel) rfl rfl (Nat.le_of_ble_eq_true rfl) dX1_matchTo_5 (fun H locs hP hD hS => ?_)
  have hP : va_P D vwCl [(h, .inr (0, [.ref t, .int (nI n)])), (t, .inl (cI, 24, .inl fl)), (h2, .inr (3, [.ref t2, .int (nI n)])), (t2, .inl (cI, 16, .inl tr))] H := hP
  have hD : va_D A [(h, .inr (0, [.ref t, .int (nI n)])), (t, .inl (cI, 24, .inl fl)), (h2, .inr (3, [.ref t2, .int (nI n)])), (t2, .inl (cI, 16, .inl tr))] := hD
  refine lv_iconst (v := 0) hx hb dX1_matchTo_8 (by decide) ?_
  refine lv_istore_n (lv' := [(2, .int 0), (0, .ref h), (1, .ref h2)]) hx hb dX1_matchTo_9 rfl hl (by decide) rfl (fun ls hl => ?_)
  have lp10 : ∀ (r10 k10 : Nat) (fl : Nat → Int32) (H : Heap) (locs : List Loc) (ls : Array Slot), r10 = n - k10 → k10 ≤ n + 1 → va_P D vwCl [(h, .inr (0, [.ref t, .int (nI n)])), (t, .inl (cI, 24, .inl fl)), (h2, .inr (3, [.ref t2, .int (nI n)])), (t2, .inl (cI, 16, .inl tr))] H → va_D A [(h, .inr (0, [.ref t, .int (nI n)])), (t, .inl (cI, 24, .inl fl)), (h2, .inr (3, [.ref t2, .int (nI n)])), (t2, .inl (cI, 16, .inl tr))] → va_S A s.heap H locs → lv_has ls 3 [(0, .ref h), (1, .ref h2), (2, .int (nI k10))] → F_X1_matchTo_10 tr n r10 k10 fl = T → W p l e (headSpec wsX1_matchTo rmX1_matchTo).room s m ([.ref h, .ref h2] : List Value).toArray below meth c H locs 0 0 Q (F0 m 10 ls []) := by
    intro r10
    induction r10 with
    | zero =>
      intro k10 fl H locs ls hi10_0 hi10_1 hP hD hS hl hF
      rw [F_X1_matchTo_10] at hF
      refine lv_iload_n hx hb dX1_matchTo_10 rfl (lv_at hl 2 rfl) ?_
      refine lv_aload_n hx hb dX1_matchTo_11 rfl (lv_at hl 1 rfl) ?_
      refine va_get (D := D) (ci := 3) (v := .int (nI n)) (C := RX5) (T := TX5) (N := 2) hx hb hts hinX5 hown hK.1 hP 2 rfl rfl 1 (by decide) hf17 (fun _ h9 => h9) rfl dX1_matchTo_12 ?_
      refine lv_icmp_ge (tgt := 48) hx hb dX1_matchTo_15 (by decide) (fun c15 => ?_) (fun c15 => ?_)
      · skip
        subst hF
        subst hQ
        exact W.vret hx hb hr (fun u9 ht hW => ⟨⟨(), rfl, trivial, by rw [← ht] at hP; exact hP⟩, hS.F ht⟩) hS.2.2 dX1_matchTo_48
      · exact False.elim (c15 (nI_le (a := n) (b := k10) (by omega) (by omega)))
    | succ r10 ih10 =>
      intro k10 fl H locs ls hi10_0 hi10_1 hP hD hS hl hF
      rw [F_X1_matchTo_10] at hF
      refine lv_iload_n hx hb dX1_matchTo_10 rfl (lv_at hl 2 rfl) ?_
      refine lv_aload_n hx hb dX1_matchTo_11 rfl (lv_at hl 1 rfl) ?_
      refine va_get (D := D) (ci := 3) (v := .int (nI n)) (C := RX5) (T := TX5) (N := 2) hx hb hts hinX5 hown hK.1 hP 2 rfl rfl 1 (by decide) hf17 (fun _ h9 => h9) rfl dX1_matchTo_12 ?_
      refine lv_icmp_ge (tgt := 48) hx hb dX1_matchTo_15 (by decide) (fun c15 => ?_) (fun c15 => ?_)
      · exact False.elim (nI_ge (a := k10) (b := n) (by omega) (by omega) c15)
      · skip
        refine lv_aload_n hx hb dX1_matchTo_18 rfl (lv_at hl 0 rfl) ?_
        refine va_get (D := D) (ci := 0) (v := .ref t) (C := RX1) (T := TX1) (N := 2) hx hb hts hinX1 hown hK.1 hP 0 rfl rfl 0 (by decide) hf9 (fun _ h9 => h9) rfl dX1_matchTo_19 ?_
        refine lv_iload_n hx hb dX1_matchTo_22 rfl (lv_at hl 2 rfl) ?_
        refine lv_aload_n hx hb dX1_matchTo_23 rfl (lv_at hl 1 rfl) ?_
        refine va_get (D := D) (ci := 3) (v := .ref t2) (C := RX5) (T := TX5) (N := 2) hx hb hts hinX5 hown hK.1 hP 2 rfl rfl 0 (by decide) hf20 (fun _ h9 => h9) rfl dX1_matchTo_24 ?_
        refine lv_aload_n hx hb dX1_matchTo_27 rfl (lv_at hl 1 rfl) ?_
        refine va_get (D := D) (ci := 3) (v := .int (nI n)) (C := RX5) (T := TX5) (N := 2) hx hb hts hinX5 hown hK.1 hP 2 rfl rfl 1 (by decide) hf17 (fun _ h9 => h9) rfl dX1_matchTo_28 ?_
        refine lv_iconst (v := 1) hx hb dX1_matchTo_31 (by decide) ?_
        refine lv_isub hx hb dX1_matchTo_32 ?_
        refine lv_iload_n hx hb dX1_matchTo_33 rfl (lv_at hl 2 rfl) ?_
        refine lv_isub hx hb dX1_matchTo_34 ?_
        refine w_ald hx hb hK hP 3 0 rfl rfl (n - 1 - k10) (nI_sub1k (by omega)) (by omega) (by omega) dX1_matchTo_35 ?_
        refine lv_ineg hx hb dX1_matchTo_36 ?_
        refine lv_iconst (v := 0) hx hb dX1_matchTo_37 (by decide) ?_
        have hPc := hP.sub (ws' := []) [] rfl
        refine cs_i (va_runSN (As := [.int (-(tr (n - 1 - k10))), .int 0]) (rest := [.int (nI k10), .ref t]) ⟨hx, hb, hml, hown, hts⟩ (c_X6_partOfTurn l D cI (-(tr (n - 1 - k10))) 0 ) ⟨va_cnB 2 hts gX1_matchTo_X6_partOfTurn_n23 rfl rfl rfl hK.2.2.2.2.2.1 hiniX6 (by decide +kernel) ⟨(Nat.le_of_ble_eq_true rfl), (Nat.le_of_ble_eq_true rfl)⟩, hst_X6_partOfTurn, trivial⟩ (ro_pre hPc hK) rfl rfl hl.1 rfl (lv_room (Nat.le_of_ble_eq_true rfl)) dX1_matchTo_38 ⟨Nat.zero_le _, Nat.zero_le _⟩) ?_
        refine w_ast hx hb hK hP hD hS 1 0 rfl rfl (k10) rfl (by omega) (by omega) dX1_matchTo_41 (fun H locs hP hD hS => ?_)
        have hP : va_P D vwCl [(h, .inr (0, [.ref t, .int (nI n)])), (t, .inl (cI, 24, .inl (upd fl k10 (fX6_partOfTurn (-(tr (n - 1 - k10))) 0)))), (h2, .inr (3, [.ref t2, .int (nI n)])), (t2, .inl (cI, 16, .inl tr))] H := hP
        have hD : va_D A [(h, .inr (0, [.ref t, .int (nI n)])), (t, .inl (cI, 24, .inl (upd fl k10 (fX6_partOfTurn (-(tr (n - 1 - k10))) 0)))), (h2, .inr (3, [.ref t2, .int (nI n)])), (t2, .inl (cI, 16, .inl tr))] := hD
        refine lv_iinc (v := nI (k10 + 1)) (lv' := [(2, .int (nI (k10 + 1))), (0, .ref h), (1, .ref h2)]) hx hb dX1_matchTo_42 hl (k := 2) rfl (nI_1 _) (by decide) rfl (fun ls hl => ?_)
        refine lv_goto (tgt := 10) hx hb dX1_matchTo_45 (by decide) ?_
        exact ih10 (k10 + 1) (upd fl k10 (fX6_partOfTurn (-(tr (n - 1 - k10))) 0)) H locs ls (by omega) (by omega) hP hD hS (lv_sub hl [1, 2, 0] rfl) hF
  exact lp10 (n - 0) 0 fl H _ ls rfl (by omega) hP hD hS (lv_sub hl [1, 2, 0] rfl) hF
def F_X1_answerPart_6 (fl : Nat → Int32) (tr : Nat → Int32) (n : Nat) (kk : Int32) (pt : Int32) : Nat → Nat → Int32 → Int32
  | 0, k6, x4 => x4
  | r6 + 1, k6, x4 => (if (fX5_has n (kk - (nI k6))) = 0 then F_X1_answerPart_6 fl tr n kk pt r6 (k6 + 1) x4 else F_X1_answerPart_6 fl tr n kk pt r6 (k6 + 1) (x4 + ((fl k6) * (fX6_partOfTurn (tr (kk - (nI k6)).toNatClampNeg) pt))))
def fX1_answerPart (fl : Nat → Int32) (fn : Nat) (tr : Nat → Int32) (n : Nat) (kk : Int32) (pt : Int32) : Int32 := F_X1_answerPart_6 fl tr n kk pt (fn - 0) 0 0
abbrev rmX1_answerPart : Room := { frames := 2, cells := 0, slots := 0, locals := 43 }
set_option maxHeartbeats 4000000 in
set_option maxRecDepth 100000 in
theorem c_X1_answerPart (l : Launch) (D : va_G) (cI : ClassId) (h : Nat) (t : Nat) (fl : Nat → Int32) (fn : Nat) (h2 : Nat) (t2 : Nat) (tr : Nat → Int32) (n : Nat) (kk : Int32) (pt : Int32) (hfn : fn ≤ 24) (hn : n ≤ 16) (hn1 : 1 ≤ n) : Met l yX1_answerPart wsX1_answerPart rmX1_answerPart (va_Pc [.ref h, .ref h2, .int kk, .int pt] (roP D [(cI, .int)] [(h, .inr (0, [.ref t, .int (nI fn)])), (t, .inl (cI, 24, .inl fl)), (h2, .inr (3, [.ref t2, .int (nI n)])), (t2, .inl (cI, 16, .inl tr))])) (vp_Si (fun r9 => r9 = fX1_answerPart fl fn tr n kk pt)) 0 0 (fun _ => False) := by
  generalize hF : fX1_answerPart fl fn tr n kk pt = T
  refine Met.ofW (cc := cX1_answerPart) (maxL := 6) (ret := (some .int)) (by decide) rfl ?_
  intro p e s m args below meth c s₁ B hml hv
  obtain ⟨rfl, hP, hK⟩ := hv
  have hx := B.exec
  have hb := B.bytes
  have hr := B.returns
  have hts := atoms_spec (ws := wsX1_answerPart) B.pre
  have hown : s.vm.findClass RX1 = some m.cls := findClass_of_methodNamed B.named
  have hlocks := B.notSynchronized
  have hinX1 : ∀ w ∈ u_ws RX1 TX1 2, w ∈ wsX1_answerPart := by decide +kernel
  have hinX5 : ∀ w ∈ u_ws RX5 TX5 2, w ∈ wsX1_answerPart := by decide +kernel
  have hf13 := hts (.fieldLink RX1 13 "PulseSigns$Filter" "length" "I") (by decide +kernel)
  have hf9 := hts (.fieldLink RX1 9 "PulseSigns$Filter" "numbers" "[I") (by decide +kernel)
  have hf20 := hts (.fieldLink RX1 20 "PulseSigns$Sign" "turns" "[I") (by decide +kernel)
  have hiniX6 := hts (.initialized RX6) (by decide +kernel)
  have hst_X6_partOfTurn := hts (.static yX6_partOfTurn) (by decide +kernel)
  have hl := lv_entry ([.ref h, .ref h2, .int kk, .int pt]) (n := 6) (Nat.le_of_ble_eq_true rfl)
  rw [lg_entry_eq]
  generalize (lg_sl ([.ref h, .ref h2, .int kk, .int pt]) ++ List.replicate (6 - (lg_sl ([.ref h, .ref h2, .int kk, .int pt])).length) Slot.unset).toArray = ls at hl ⊢
  refine w_Q (fun Q hQ => ?_)
  have hl : lv_has ls 6 [(0, .ref h), (1, .ref h2), (2, .int kk), (3, .int pt)] := hl
  rw [fX1_answerPart] at hF
  refine lv_iconst (v := 0) hx hb dX1_answerPart_0 (by decide) ?_
  refine lv_istore (lv' := [(4, .int 0), (0, .ref h), (1, .ref h2), (2, .int kk), (3, .int pt)]) hx hb dX1_answerPart_1 hl (by decide) rfl (fun ls hl => ?_)
  refine lv_iconst (v := 0) hx hb dX1_answerPart_3 (by decide) ?_
  refine lv_istore (lv' := [(5, .int 0), (4, .int 0), (0, .ref h), (1, .ref h2), (2, .int kk), (3, .int pt)]) hx hb dX1_answerPart_4 hl (by decide) rfl (fun ls hl => ?_)
  have lp6 : ∀ (r6 k6 : Nat) (x4 : Int32) (ls : Array Slot), r6 = fn - k6 → k6 ≤ fn + 1 → lv_has ls 6 [(0, .ref h), (1, .ref h2), (2, .int kk), (3, .int pt), (4, .int x4), (5, .int (nI k6))] → F_X1_answerPart_6 fl tr n kk pt r6 k6 x4 = T → W p l e (headSpec wsX1_answerPart rmX1_answerPart).room s m ([.ref h, .ref h2, .int kk, .int pt] : List Value).toArray below meth c s.heap [] 0 0 Q (F0 m 6 ls []) := by
    intro r6
    induction r6 with
    | zero =>
      intro k6 x4 ls hi6_0 hi6_1 hl hF
      rw [F_X1_answerPart_6] at hF
      refine lv_iload hx hb dX1_answerPart_6 (lv_at hl 5 rfl) ?_
      refine lv_aload_n hx hb dX1_answerPart_8 rfl (lv_at hl 0 rfl) ?_
      refine va_get (D := D) (ci := 0) (v := .int (nI fn)) (C := RX1) (T := TX1) (N := 2) hx hb hts hinX1 hown hK.1 hP 0 rfl rfl 1 (by decide) hf13 (fun _ h9 => h9) rfl dX1_answerPart_9 ?_
      refine lv_icmp_ge (tgt := 58) hx hb dX1_answerPart_12 (by decide) (fun c12 => ?_) (fun c12 => ?_)
      · skip
        refine lv_iload hx hb dX1_answerPart_58 (lv_at hl 4 rfl) ?_
        subst hQ
        exact W.iret (v := x4) hx hb hr (fun u9 ht hW => ⟨_, rfl, hF, ht⟩) (fun q hq => by cases hq) dX1_answerPart_60
      · exact False.elim (c12 (nI_le (a := fn) (b := k6) (by omega) (by omega)))
    | succ r6 ih6 =>
      intro k6 x4 ls hi6_0 hi6_1 hl hF
      rw [F_X1_answerPart_6] at hF
      refine lv_iload hx hb dX1_answerPart_6 (lv_at hl 5 rfl) ?_
      refine lv_aload_n hx hb dX1_answerPart_8 rfl (lv_at hl 0 rfl) ?_
      refine va_get (D := D) (ci := 0) (v := .int (nI fn)) (C := RX1) (T := TX1) (N := 2) hx hb hts hinX1 hown hK.1 hP 0 rfl rfl 1 (by decide) hf13 (fun _ h9 => h9) rfl dX1_answerPart_9 ?_
      refine lv_icmp_ge (tgt := 58) hx hb dX1_answerPart_12 (by decide) (fun c12 => ?_) (fun c12 => ?_)
      · exact False.elim (nI_ge (a := k6) (b := fn) (by omega) (by omega) c12)
      · skip
        refine lv_aload_n hx hb dX1_answerPart_15 rfl (lv_at hl 1 rfl) ?_
        refine lv_iload_n hx hb dX1_answerPart_16 rfl (lv_at hl 2 rfl) ?_
        refine lv_iload hx hb dX1_answerPart_17 (lv_at hl 5 rfl) ?_
        refine lv_isub hx hb dX1_answerPart_19 ?_
        have hPc := hP.sub (ws' := [(h2, .inr (3, [.ref t2, .int (nI n)])), (t2, .inl (cI, 16, .inl tr))]) [2, 3] rfl
        refine cs_i (va_runV (As := [.int (kk - (nI k6))]) (rest := []) ⟨hx, hb, hml, hown, hts⟩ (c_X5_has l D cI h2 t2 tr n (kk - (nI k6)) ) (cwV 1 hts gX1_answerPart_X5_has rfl rfl rfl (by decide +kernel) ⟨(Nat.le_of_ble_eq_true rfl), (Nat.le_of_ble_eq_true rfl)⟩) (ro_preV hPc hK rfl (q0 := 0) rfl) rfl rfl hl.1 rfl (lv_room (Nat.le_of_ble_eq_true rfl)) dX1_answerPart_20 ⟨Nat.zero_le _, Nat.zero_le _⟩) ?_
        refine lv_if_eq (tgt := 52) hx hb dX1_answerPart_23 (by decide) (fun c23 => ?_) (fun c23 => ?_)
        · rw [if_pos c23] at hF
          refine lv_iinc (v := nI (k6 + 1)) (lv' := [(5, .int (nI (k6 + 1))), (0, .ref h), (1, .ref h2), (2, .int kk), (3, .int pt), (4, .int x4)]) hx hb dX1_answerPart_52 hl (k := 5) rfl (nI_1 _) (by decide) rfl (fun ls hl => ?_)
          refine lv_goto (tgt := 6) hx hb dX1_answerPart_55 (by decide) ?_
          exact ih6 (k6 + 1) x4 ls (by omega) (by omega)  (lv_sub hl [1, 2, 3, 4, 5, 0] rfl) hF
        · rw [if_neg c23] at hF
          refine lv_iload hx hb dX1_answerPart_26 (lv_at hl 4 rfl) ?_
          refine lv_aload_n hx hb dX1_answerPart_28 rfl (lv_at hl 0 rfl) ?_
          refine va_get (D := D) (ci := 0) (v := .ref t) (C := RX1) (T := TX1) (N := 2) hx hb hts hinX1 hown hK.1 hP 0 rfl rfl 0 (by decide) hf9 (fun _ h9 => h9) rfl dX1_answerPart_29 ?_
          refine lv_iload hx hb dX1_answerPart_32 (lv_at hl 5 rfl) ?_
          refine w_ald hx hb hK hP 1 0 rfl rfl (k6) rfl (by omega) (by omega) dX1_answerPart_34 ?_
          refine lv_aload_n hx hb dX1_answerPart_35 rfl (lv_at hl 1 rfl) ?_
          refine va_get (D := D) (ci := 3) (v := .ref t2) (C := RX5) (T := TX5) (N := 2) hx hb hts hinX5 hown hK.1 hP 2 rfl rfl 0 (by decide) hf20 (fun _ h9 => h9) rfl dX1_answerPart_36 ?_
          refine lv_iload_n hx hb dX1_answerPart_39 rfl (lv_at hl 2 rfl) ?_
          refine lv_iload hx hb dX1_answerPart_40 (lv_at hl 5 rfl) ?_
          refine lv_isub hx hb dX1_answerPart_42 ?_
          refine va_iald hx hb hK.1 hP 3 0 rfl rfl (has_in c23 hn) dX1_answerPart_43 ?_
          refine lv_iload_n hx hb dX1_answerPart_44 rfl (lv_at hl 3 rfl) ?_
          have hPc := hP.sub (ws' := []) [] rfl
          refine cs_i (va_runSN (As := [.int (tr (kk - (nI k6)).toNatClampNeg), .int pt]) (rest := [.int (fl k6), .int x4]) ⟨hx, hb, hml, hown, hts⟩ (c_X6_partOfTurn l D cI (tr (kk - (nI k6)).toNatClampNeg) pt ) ⟨va_cnB 2 hts gX1_answerPart_X6_partOfTurn_n23 rfl rfl rfl hK.2.2.2.2.2.1 hiniX6 (by decide +kernel) ⟨(Nat.le_of_ble_eq_true rfl), (Nat.le_of_ble_eq_true rfl)⟩, hst_X6_partOfTurn, trivial⟩ (ro_pre hPc hK) rfl rfl hl.1 rfl (lv_room (Nat.le_of_ble_eq_true rfl)) dX1_answerPart_45 ⟨Nat.zero_le _, Nat.zero_le _⟩) ?_
          refine lv_imul hx hb dX1_answerPart_48 ?_
          refine lv_iadd hx hb dX1_answerPart_49 ?_
          refine lv_istore (lv' := [(4, .int (x4 + ((fl k6) * (fX6_partOfTurn (tr (kk - (nI k6)).toNatClampNeg) pt)))), (0, .ref h), (1, .ref h2), (2, .int kk), (3, .int pt), (5, .int (nI k6))]) hx hb dX1_answerPart_50 hl (by decide) rfl (fun ls hl => ?_)
          refine lv_iinc (v := nI (k6 + 1)) (lv' := [(5, .int (nI (k6 + 1))), (4, .int (x4 + ((fl k6) * (fX6_partOfTurn (tr (kk - (nI k6)).toNatClampNeg) pt)))), (0, .ref h), (1, .ref h2), (2, .int kk), (3, .int pt)]) hx hb dX1_answerPart_52 hl (k := 5) rfl (nI_1 _) (by decide) rfl (fun ls hl => ?_)
          refine lv_goto (tgt := 6) hx hb dX1_answerPart_55 (by decide) ?_
          exact ih6 (k6 + 1) (x4 + ((fl k6) * (fX6_partOfTurn (tr (kk - (nI k6)).toNatClampNeg) pt))) ls (by omega) (by omega)  (lv_sub hl [2, 3, 4, 5, 1, 0] rfl) hF
  exact lp6 (fn - 0) 0 0 ls rfl (by omega)  (lv_sub hl [2, 3, 4, 5, 1, 0] rfl) hF
def fX1_answerSize (fl : Nat → Int32) (fn : Nat) (tr : Nat → Int32) (n : Nat) (kk : Int32) : Int32 := ((fX1_answerPart fl fn tr n kk 0) * (fX1_answerPart fl fn tr n kk 0)) + ((fX1_answerPart fl fn tr n kk 1) * (fX1_answerPart fl fn tr n kk 1))
abbrev rmX1_answerSize : Room := { frames := 3, cells := 0, slots := 0, locals := 68 }
set_option maxHeartbeats 4000000 in
set_option maxRecDepth 100000 in
theorem c_X1_answerSize (l : Launch) (D : va_G) (cI : ClassId) (h : Nat) (t : Nat) (fl : Nat → Int32) (fn : Nat) (h2 : Nat) (t2 : Nat) (tr : Nat → Int32) (n : Nat) (kk : Int32) (hfn : fn ≤ 24) (hn : n ≤ 16) (hn1 : 1 ≤ n) : Met l yX1_answerSize wsX1_answerSize rmX1_answerSize (va_Pc [.ref h, .ref h2, .int kk] (roP D [(cI, .int)] [(h, .inr (0, [.ref t, .int (nI fn)])), (t, .inl (cI, 24, .inl fl)), (h2, .inr (3, [.ref t2, .int (nI n)])), (t2, .inl (cI, 16, .inl tr))])) (vp_Si (fun r9 => r9 = fX1_answerSize fl fn tr n kk)) 0 0 (fun _ => False) := by
  generalize hF : fX1_answerSize fl fn tr n kk = T
  refine Met.ofW (cc := cX1_answerSize) (maxL := 5) (ret := (some .int)) (by decide) rfl ?_
  intro p e s m args below meth c s₁ B hml hv
  obtain ⟨rfl, hP, hK⟩ := hv
  have hx := B.exec
  have hb := B.bytes
  have hr := B.returns
  have hts := atoms_spec (ws := wsX1_answerSize) B.pre
  have hown : s.vm.findClass RX1 = some m.cls := findClass_of_methodNamed B.named
  have hlocks := B.notSynchronized
  have hl := lv_entry ([.ref h, .ref h2, .int kk]) (n := 5) (Nat.le_of_ble_eq_true rfl)
  rw [lg_entry_eq]
  generalize (lg_sl ([.ref h, .ref h2, .int kk]) ++ List.replicate (5 - (lg_sl ([.ref h, .ref h2, .int kk])).length) Slot.unset).toArray = ls at hl ⊢
  refine w_Q (fun Q hQ => ?_)
  have hl : lv_has ls 5 [(0, .ref h), (1, .ref h2), (2, .int kk)] := hl
  rw [fX1_answerSize] at hF
  refine lv_aload_n hx hb dX1_answerSize_0 rfl (lv_at hl 0 rfl) ?_
  refine lv_aload_n hx hb dX1_answerSize_1 rfl (lv_at hl 1 rfl) ?_
  refine lv_iload_n hx hb dX1_answerSize_2 rfl (lv_at hl 2 rfl) ?_
  refine lv_iconst (v := 0) hx hb dX1_answerSize_3 (by decide) ?_
  refine cs_i (va_runV (As := [.ref h2, .int kk, .int 0]) (rest := []) ⟨hx, hb, hml, hown, hts⟩ (c_X1_answerPart l D cI h t fl fn h2 t2 tr n kk 0 (by first | assumption | omega) (by first | assumption | omega) (by first | assumption | omega)) (cwV 3 hts gX1_answerSize_X1_answerPart rfl rfl rfl (by decide +kernel) ⟨(Nat.le_of_ble_eq_true rfl), (Nat.le_of_ble_eq_true rfl)⟩) (ro_preV hP hK rfl (q0 := 0) rfl) rfl rfl hl.1 rfl (lv_room (Nat.le_of_ble_eq_true rfl)) dX1_answerSize_4 ⟨Nat.zero_le _, Nat.zero_le _⟩) ?_
  refine lv_istore_n (lv' := [(3, .int (fX1_answerPart fl fn tr n kk 0)), (0, .ref h), (1, .ref h2), (2, .int kk)]) hx hb dX1_answerSize_7 rfl hl (by decide) rfl (fun ls hl => ?_)
  refine lv_aload_n hx hb dX1_answerSize_8 rfl (lv_at hl 1 rfl) ?_
  refine lv_aload_n hx hb dX1_answerSize_9 rfl (lv_at hl 2 rfl) ?_
  refine lv_iload_n hx hb dX1_answerSize_10 rfl (lv_at hl 3 rfl) ?_
  refine lv_iconst (v := 1) hx hb dX1_answerSize_11 (by decide) ?_
  refine cs_i (va_runV (As := [.ref h2, .int kk, .int 1]) (rest := []) ⟨hx, hb, hml, hown, hts⟩ (c_X1_answerPart l D cI h t fl fn h2 t2 tr n kk 1 (by first | assumption | omega) (by first | assumption | omega) (by first | assumption | omega)) (cwV 3 hts gX1_answerSize_X1_answerPart rfl rfl rfl (by decide +kernel) ⟨(Nat.le_of_ble_eq_true rfl), (Nat.le_of_ble_eq_true rfl)⟩) (ro_preV hP hK rfl (q0 := 0) rfl) rfl rfl hl.1 rfl (lv_room (Nat.le_of_ble_eq_true rfl)) dX1_answerSize_12 ⟨Nat.zero_le _, Nat.zero_le _⟩) ?_
  refine lv_istore (lv' := [(4, .int (fX1_answerPart fl fn tr n kk 1)), (3, .int (fX1_answerPart fl fn tr n kk 0)), (0, .ref h), (1, .ref h2), (2, .int kk)]) hx hb dX1_answerSize_15 hl (by decide) rfl (fun ls hl => ?_)
  refine lv_iload_n hx hb dX1_answerSize_17 rfl (lv_at hl 1 rfl) ?_
  refine lv_iload_n hx hb dX1_answerSize_18 rfl (lv_at hl 1 rfl) ?_
  refine lv_imul hx hb dX1_answerSize_19 ?_
  refine lv_iload hx hb dX1_answerSize_20 (lv_at hl 0 rfl) ?_
  refine lv_iload hx hb dX1_answerSize_22 (lv_at hl 0 rfl) ?_
  refine lv_imul hx hb dX1_answerSize_24 ?_
  refine lv_iadd hx hb dX1_answerSize_25 ?_
  subst hQ
  exact W.iret (v := ((fX1_answerPart fl fn tr n kk 0) * (fX1_answerPart fl fn tr n kk 0)) + ((fX1_answerPart fl fn tr n kk 1) * (fX1_answerPart fl fn tr n kk 1))) hx hb hr (fun u9 ht hW => ⟨_, rfl, hF, ht⟩) (fun q hq => by cases hq) dX1_answerSize_26
def F_X1_greatestPlace_12 (fl : Nat → Int32) (fn : Nat) (tr : Nat → Int32) (n : Nat) : Nat → Nat → Int32 → Int32 → Int32
  | 0, k12, x2, x3 => x2
  | r12 + 1, k12, x2, x3 => (if (fX1_answerSize fl fn tr n (nI k12)) ≤ x3 then F_X1_greatestPlace_12 fl fn tr n r12 (k12 + 1) x2 x3 else F_X1_greatestPlace_12 fl fn tr n r12 (k12 + 1) (nI k12) (fX1_answerSize fl fn tr n (nI k12)))
def fX1_greatestPlace (fl : Nat → Int32) (fn : Nat) (tr : Nat → Int32) (n : Nat) : Int32 := F_X1_greatestPlace_12 fl fn tr n ((fn + n - 1) - 1) 1 0 (fX1_answerSize fl fn tr n 0)
abbrev rmX1_greatestPlace : Room := { frames := 4, cells := 0, slots := 0, locals := 92 }
set_option maxHeartbeats 4000000 in
set_option maxRecDepth 100000 in
theorem c_X1_greatestPlace (l : Launch) (D : va_G) (cI : ClassId) (h : Nat) (t : Nat) (fl : Nat → Int32) (fn : Nat) (h2 : Nat) (t2 : Nat) (tr : Nat → Int32) (n : Nat) (hfn : fn ≤ 24) (hn : n ≤ 16) (hn1 : 1 ≤ n) : Met l yX1_greatestPlace wsX1_greatestPlace rmX1_greatestPlace (va_Pc [.ref h, .ref h2] (roP D [(cI, .int)] [(h, .inr (0, [.ref t, .int (nI fn)])), (t, .inl (cI, 24, .inl fl)), (h2, .inr (3, [.ref t2, .int (nI n)])), (t2, .inl (cI, 16, .inl tr))])) (vp_Si (fun r9 => r9 = fX1_greatestPlace fl fn tr n)) 0 0 (fun _ => False) := by
  generalize hF : fX1_greatestPlace fl fn tr n = T
  refine Met.ofW (cc := cX1_greatestPlace) (maxL := 6) (ret := (some .int)) (by decide) rfl ?_
  intro p e s m args below meth c s₁ B hml hv
  obtain ⟨rfl, hP, hK⟩ := hv
  have hx := B.exec
  have hb := B.bytes
  have hr := B.returns
  have hts := atoms_spec (ws := wsX1_greatestPlace) B.pre
  have hown : s.vm.findClass RX1 = some m.cls := findClass_of_methodNamed B.named
  have hlocks := B.notSynchronized
  have hinX1 : ∀ w ∈ u_ws RX1 TX1 2, w ∈ wsX1_greatestPlace := by decide +kernel
  have hinX5 : ∀ w ∈ u_ws RX5 TX5 2, w ∈ wsX1_greatestPlace := by decide +kernel
  have hf13 := hts (.fieldLink RX1 13 "PulseSigns$Filter" "length" "I") (by decide +kernel)
  have hf17 := hts (.fieldLink RX1 17 "PulseSigns$Sign" "length" "I") (by decide +kernel)
  have hl := lv_entry ([.ref h, .ref h2]) (n := 6) (Nat.le_of_ble_eq_true rfl)
  rw [lg_entry_eq]
  generalize (lg_sl ([.ref h, .ref h2]) ++ List.replicate (6 - (lg_sl ([.ref h, .ref h2])).length) Slot.unset).toArray = ls at hl ⊢
  refine w_Q (fun Q hQ => ?_)
  have hl : lv_has ls 6 [(0, .ref h), (1, .ref h2)] := hl
  rw [fX1_greatestPlace] at hF
  refine lv_iconst (v := 0) hx hb dX1_greatestPlace_0 (by decide) ?_
  refine lv_istore_n (lv' := [(2, .int 0), (0, .ref h), (1, .ref h2)]) hx hb dX1_greatestPlace_1 rfl hl (by decide) rfl (fun ls hl => ?_)
  refine lv_aload_n hx hb dX1_greatestPlace_2 rfl (lv_at hl 1 rfl) ?_
  refine lv_aload_n hx hb dX1_greatestPlace_3 rfl (lv_at hl 2 rfl) ?_
  refine lv_iconst (v := 0) hx hb dX1_greatestPlace_4 (by decide) ?_
  refine cs_i (va_runV (As := [.ref h2, .int 0]) (rest := []) ⟨hx, hb, hml, hown, hts⟩ (c_X1_answerSize l D cI h t fl fn h2 t2 tr n 0 (by first | assumption | omega) (by first | assumption | omega) (by first | assumption | omega)) (cwV 2 hts gX1_greatestPlace_X1_answerSize rfl rfl rfl (by decide +kernel) ⟨(Nat.le_of_ble_eq_true rfl), (Nat.le_of_ble_eq_true rfl)⟩) (ro_preV hP hK rfl (q0 := 0) rfl) rfl rfl hl.1 rfl (lv_room (Nat.le_of_ble_eq_true rfl)) dX1_greatestPlace_5 ⟨Nat.zero_le _, Nat.zero_le _⟩) ?_
  refine lv_istore_n (lv' := [(3, .int (fX1_answerSize fl fn tr n 0)), (2, .int 0), (0, .ref h), (1, .ref h2)]) hx hb dX1_greatestPlace_8 rfl hl (by decide) rfl (fun ls hl => ?_)
  refine lv_iconst (v := 1) hx hb dX1_greatestPlace_9 (by decide) ?_
  refine lv_istore (lv' := [(4, .int 1), (3, .int (fX1_answerSize fl fn tr n 0)), (2, .int 0), (0, .ref h), (1, .ref h2)]) hx hb dX1_greatestPlace_10 hl (by decide) rfl (fun ls hl => ?_)
  have lp12 : ∀ (r12 k12 : Nat) (x2 : Int32) (x3 : Int32) (ls : Array Slot), r12 = (fn + n - 1) - k12 → k12 ≤ (fn + n - 1) + 1 → lv_has ls 6 [(0, .ref h), (1, .ref h2), (2, .int x2), (3, .int x3), (4, .int (nI k12))] → F_X1_greatestPlace_12 fl fn tr n r12 k12 x2 x3 = T → W p l e (headSpec wsX1_greatestPlace rmX1_greatestPlace).room s m ([.ref h, .ref h2] : List Value).toArray below meth c s.heap [] 0 0 Q (F0 m 12 ls []) := by
    intro r12
    induction r12 with
    | zero =>
      intro k12 x2 x3 ls hi12_0 hi12_1 hl hF
      rw [F_X1_greatestPlace_12] at hF
      refine lv_iload hx hb dX1_greatestPlace_12 (lv_at hl 4 rfl) ?_
      refine lv_aload_n hx hb dX1_greatestPlace_14 rfl (lv_at hl 0 rfl) ?_
      refine va_get (D := D) (ci := 0) (v := .int (nI fn)) (C := RX1) (T := TX1) (N := 2) hx hb hts hinX1 hown hK.1 hP 0 rfl rfl 1 (by decide) hf13 (fun _ h9 => h9) rfl dX1_greatestPlace_15 ?_
      refine lv_aload_n hx hb dX1_greatestPlace_18 rfl (lv_at hl 1 rfl) ?_
      refine va_get (D := D) (ci := 3) (v := .int (nI n)) (C := RX5) (T := TX5) (N := 2) hx hb hts hinX5 hown hK.1 hP 2 rfl rfl 1 (by decide) hf17 (fun _ h9 => h9) rfl dX1_greatestPlace_19 ?_
      refine lv_iadd hx hb dX1_greatestPlace_22 ?_
      refine lv_iconst (v := 1) hx hb dX1_greatestPlace_23 (by decide) ?_
      refine lv_isub hx hb dX1_greatestPlace_24 ?_
      refine lv_icmp_ge (tgt := 55) hx hb dX1_greatestPlace_25 (by decide) (fun c25 => ?_) (fun c25 => ?_)
      · skip
        refine lv_iload_n hx hb dX1_greatestPlace_55 rfl (lv_at hl 2 rfl) ?_
        subst hQ
        exact W.iret (v := x2) hx hb hr (fun u9 ht hW => ⟨_, rfl, hF, ht⟩) (fun q hq => by cases hq) dX1_greatestPlace_56
      · exact False.elim (c25 (by rw [addm1 (by omega)]; exact nI_le (by omega) (by omega)))
    | succ r12 ih12 =>
      intro k12 x2 x3 ls hi12_0 hi12_1 hl hF
      rw [F_X1_greatestPlace_12] at hF
      refine lv_iload hx hb dX1_greatestPlace_12 (lv_at hl 4 rfl) ?_
      refine lv_aload_n hx hb dX1_greatestPlace_14 rfl (lv_at hl 0 rfl) ?_
      refine va_get (D := D) (ci := 0) (v := .int (nI fn)) (C := RX1) (T := TX1) (N := 2) hx hb hts hinX1 hown hK.1 hP 0 rfl rfl 1 (by decide) hf13 (fun _ h9 => h9) rfl dX1_greatestPlace_15 ?_
      refine lv_aload_n hx hb dX1_greatestPlace_18 rfl (lv_at hl 1 rfl) ?_
      refine va_get (D := D) (ci := 3) (v := .int (nI n)) (C := RX5) (T := TX5) (N := 2) hx hb hts hinX5 hown hK.1 hP 2 rfl rfl 1 (by decide) hf17 (fun _ h9 => h9) rfl dX1_greatestPlace_19 ?_
      refine lv_iadd hx hb dX1_greatestPlace_22 ?_
      refine lv_iconst (v := 1) hx hb dX1_greatestPlace_23 (by decide) ?_
      refine lv_isub hx hb dX1_greatestPlace_24 ?_
      refine lv_icmp_ge (tgt := 55) hx hb dX1_greatestPlace_25 (by decide) (fun c25 => ?_) (fun c25 => ?_)
      · exact False.elim ((by rw [addm1 (by omega)] at c25; exact nI_ge (by omega) (by omega) c25))
      · skip
        refine lv_aload_n hx hb dX1_greatestPlace_28 rfl (lv_at hl 0 rfl) ?_
        refine lv_aload_n hx hb dX1_greatestPlace_29 rfl (lv_at hl 1 rfl) ?_
        refine lv_iload hx hb dX1_greatestPlace_30 (lv_at hl 4 rfl) ?_
        refine cs_i (va_runV (As := [.ref h2, .int (nI k12)]) (rest := []) ⟨hx, hb, hml, hown, hts⟩ (c_X1_answerSize l D cI h t fl fn h2 t2 tr n (nI k12) (by first | assumption | omega) (by first | assumption | omega) (by first | assumption | omega)) (cwV 2 hts gX1_greatestPlace_X1_answerSize rfl rfl rfl (by decide +kernel) ⟨(Nat.le_of_ble_eq_true rfl), (Nat.le_of_ble_eq_true rfl)⟩) (ro_preV hP hK rfl (q0 := 0) rfl) rfl rfl hl.1 rfl (lv_room (Nat.le_of_ble_eq_true rfl)) dX1_greatestPlace_32 ⟨Nat.zero_le _, Nat.zero_le _⟩) ?_
        refine lv_istore (lv' := [(5, .int (fX1_answerSize fl fn tr n (nI k12))), (0, .ref h), (1, .ref h2), (2, .int x2), (3, .int x3), (4, .int (nI k12))]) hx hb dX1_greatestPlace_35 hl (by decide) rfl (fun ls hl => ?_)
        refine lv_iload hx hb dX1_greatestPlace_37 (lv_at hl 0 rfl) ?_
        refine lv_iload_n hx hb dX1_greatestPlace_39 rfl (lv_at hl 4 rfl) ?_
        refine lv_icmp_le (tgt := 49) hx hb dX1_greatestPlace_40 (by decide) (fun c40 => ?_) (fun c40 => ?_)
        · rw [if_pos c40] at hF
          refine lv_iinc (v := nI (k12 + 1)) (lv' := [(4, .int (nI (k12 + 1))), (5, .int (fX1_answerSize fl fn tr n (nI k12))), (0, .ref h), (1, .ref h2), (2, .int x2), (3, .int x3)]) hx hb dX1_greatestPlace_49 hl (k := 5) rfl (nI_1 _) (by decide) rfl (fun ls hl => ?_)
          refine lv_goto (tgt := 12) hx hb dX1_greatestPlace_52 (by decide) ?_
          exact ih12 (k12 + 1) x2 x3 ls (by omega) (by omega)  (lv_sub hl [2, 3, 4, 5, 0] rfl) hF
        · rw [if_neg c40] at hF
          refine lv_iload hx hb dX1_greatestPlace_43 (lv_at hl 5 rfl) ?_
          refine lv_istore_n (lv' := [(2, .int (nI k12)), (5, .int (fX1_answerSize fl fn tr n (nI k12))), (0, .ref h), (1, .ref h2), (3, .int x3), (4, .int (nI k12))]) hx hb dX1_greatestPlace_45 rfl hl (by decide) rfl (fun ls hl => ?_)
          refine lv_iload hx hb dX1_greatestPlace_46 (lv_at hl 1 rfl) ?_
          refine lv_istore_n (lv' := [(3, .int (fX1_answerSize fl fn tr n (nI k12))), (2, .int (nI k12)), (5, .int (fX1_answerSize fl fn tr n (nI k12))), (0, .ref h), (1, .ref h2), (4, .int (nI k12))]) hx hb dX1_greatestPlace_48 rfl hl (by decide) rfl (fun ls hl => ?_)
          refine lv_iinc (v := nI (k12 + 1)) (lv' := [(4, .int (nI (k12 + 1))), (3, .int (fX1_answerSize fl fn tr n (nI k12))), (2, .int (nI k12)), (5, .int (fX1_answerSize fl fn tr n (nI k12))), (0, .ref h), (1, .ref h2)]) hx hb dX1_greatestPlace_49 hl (k := 5) rfl (nI_1 _) (by decide) rfl (fun ls hl => ?_)
          refine lv_goto (tgt := 12) hx hb dX1_greatestPlace_52 (by decide) ?_
          exact ih12 (k12 + 1) (nI k12) (fX1_answerSize fl fn tr n (nI k12)) ls (by omega) (by omega)  (lv_sub hl [4, 5, 2, 1, 0] rfl) hF
  exact lp12 ((fn + n - 1) - 1) 1 0 (fX1_answerSize fl fn tr n 0) ls rfl (by omega)  (lv_sub hl [3, 4, 2, 1, 0] rfl) hF
def F_X1_clearness_25 (fl : Nat → Int32) (fn : Nat) (tr : Nat → Int32) (n : Nat) : Nat → Nat → Int32 → Int32
  | 0, k25, x4 => (if x4 = 0 then 1000000 else (10 * (fX1_answerSize fl fn tr n (fX1_greatestPlace fl fn tr n))) / x4)
  | r25 + 1, k25, x4 => (if (nI k25) = (fX1_greatestPlace fl fn tr n) then F_X1_clearness_25 fl fn tr n r25 (k25 + 1) x4 else F_X1_clearness_25 fl fn tr n r25 (k25 + 1) (if x4 < (fX1_answerSize fl fn tr n (nI k25)) then fX1_answerSize fl fn tr n (nI k25) else x4))
def fX1_clearness (fl : Nat → Int32) (fn : Nat) (tr : Nat → Int32) (n : Nat) : Int32 := (if (fX1_answerSize fl fn tr n (fX1_greatestPlace fl fn tr n)) = 0 then 0 else F_X1_clearness_25 fl fn tr n ((fn + n - 1) - 0) 0 0)
abbrev rmX1_clearness : Room := { frames := 5, cells := 0, slots := 0, locals := 117 }
set_option maxHeartbeats 4000000 in
set_option maxRecDepth 100000 in
theorem c_X1_clearness (l : Launch) (D : va_G) (cI : ClassId) (h : Nat) (t : Nat) (fl : Nat → Int32) (fn : Nat) (h2 : Nat) (t2 : Nat) (tr : Nat → Int32) (n : Nat) (hfn : fn ≤ 24) (hn : n ≤ 16) (hn1 : 1 ≤ n) : Met l yX1_clearness wsX1_clearness rmX1_clearness (va_Pc [.ref h, .ref h2] (roP D [(cI, .int)] [(h, .inr (0, [.ref t, .int (nI fn)])), (t, .inl (cI, 24, .inl fl)), (h2, .inr (3, [.ref t2, .int (nI n)])), (t2, .inl (cI, 16, .inl tr))])) (vp_Si (fun r9 => r9 = fX1_clearness fl fn tr n)) 0 0 (fun _ => False) := by
  generalize hF : fX1_clearness fl fn tr n = T
  refine Met.ofW (cc := cX1_clearness) (maxL := 6) (ret := (some .int)) (by decide) rfl ?_
  intro p e s m args below meth c s₁ B hml hv
  obtain ⟨rfl, hP, hK⟩ := hv
  have hx := B.exec
  have hb := B.bytes
  have hr := B.returns
  have hts := atoms_spec (ws := wsX1_clearness) B.pre
  have hown : s.vm.findClass RX1 = some m.cls := findClass_of_methodNamed B.named
  have hlocks := B.notSynchronized
  have hinX1 : ∀ w ∈ u_ws RX1 TX1 2, w ∈ wsX1_clearness := by decide +kernel
  have hinX5 : ∀ w ∈ u_ws RX5 TX5 2, w ∈ wsX1_clearness := by decide +kernel
  have hf13 := hts (.fieldLink RX1 13 "PulseSigns$Filter" "length" "I") (by decide +kernel)
  have hf17 := hts (.fieldLink RX1 17 "PulseSigns$Sign" "length" "I") (by decide +kernel)
  have hcst50 := hts (.constant RX1 50 1000000) (by decide +kernel)
  have hml45 := hts (.methodLink RX1 45 Lib.Math.max.name) (by decide +kernel)
  have hst45 := hts (.static Lib.Math.max.name) (by decide +kernel)
  have hiM := hts (.initialized "java/lang/Math") (by decide +kernel)
  have hcd45 := hts (.code Lib.Math.max.name Lib.Math.max.code 2 (some .int)) (by decide +kernel)
  have hl := lv_entry ([.ref h, .ref h2]) (n := 6) (Nat.le_of_ble_eq_true rfl)
  rw [lg_entry_eq]
  generalize (lg_sl ([.ref h, .ref h2]) ++ List.replicate (6 - (lg_sl ([.ref h, .ref h2])).length) Slot.unset).toArray = ls at hl ⊢
  refine w_Q (fun Q hQ => ?_)
  have hl : lv_has ls 6 [(0, .ref h), (1, .ref h2)] := hl
  rw [fX1_clearness] at hF
  refine lv_aload_n hx hb dX1_clearness_0 rfl (lv_at hl 0 rfl) ?_
  refine lv_aload_n hx hb dX1_clearness_1 rfl (lv_at hl 1 rfl) ?_
  refine cs_i (va_runV (As := [.ref h2]) (rest := []) ⟨hx, hb, hml, hown, hts⟩ (c_X1_greatestPlace l D cI h t fl fn h2 t2 tr n (by first | assumption | omega) (by first | assumption | omega) (by first | assumption | omega)) (cwV 1 hts gX1_clearness_X1_greatestPlace rfl rfl rfl (by decide +kernel) ⟨(Nat.le_of_ble_eq_true rfl), (Nat.le_of_ble_eq_true rfl)⟩) (ro_preV hP hK rfl (q0 := 0) rfl) rfl rfl hl.1 rfl (lv_room (Nat.le_of_ble_eq_true rfl)) dX1_clearness_2 ⟨Nat.zero_le _, Nat.zero_le _⟩) ?_
  refine lv_istore_n (lv' := [(2, .int (fX1_greatestPlace fl fn tr n)), (0, .ref h), (1, .ref h2)]) hx hb dX1_clearness_5 rfl hl (by decide) rfl (fun ls hl => ?_)
  refine lv_aload_n hx hb dX1_clearness_6 rfl (lv_at hl 1 rfl) ?_
  refine lv_aload_n hx hb dX1_clearness_7 rfl (lv_at hl 2 rfl) ?_
  refine lv_iload_n hx hb dX1_clearness_8 rfl (lv_at hl 0 rfl) ?_
  refine cs_i (va_runV (As := [.ref h2, .int (fX1_greatestPlace fl fn tr n)]) (rest := []) ⟨hx, hb, hml, hown, hts⟩ (c_X1_answerSize l D cI h t fl fn h2 t2 tr n (fX1_greatestPlace fl fn tr n) (by first | assumption | omega) (by first | assumption | omega) (by first | assumption | omega)) (cwV 2 hts gX1_clearness_X1_answerSize rfl rfl rfl (by decide +kernel) ⟨(Nat.le_of_ble_eq_true rfl), (Nat.le_of_ble_eq_true rfl)⟩) (ro_preV hP hK rfl (q0 := 0) rfl) rfl rfl hl.1 rfl (lv_room (Nat.le_of_ble_eq_true rfl)) dX1_clearness_9 ⟨Nat.zero_le _, Nat.zero_le _⟩) ?_
  refine lv_istore_n (lv' := [(3, .int (fX1_answerSize fl fn tr n (fX1_greatestPlace fl fn tr n))), (2, .int (fX1_greatestPlace fl fn tr n)), (0, .ref h), (1, .ref h2)]) hx hb dX1_clearness_12 rfl hl (by decide) rfl (fun ls hl => ?_)
  refine lv_iload_n hx hb dX1_clearness_13 rfl (lv_at hl 0 rfl) ?_
  refine lv_if_ne (tgt := 19) hx hb dX1_clearness_14 (by decide) (fun c14 => ?_) (fun c14 => ?_)
  · rw [if_neg c14] at hF
    refine lv_iconst (v := 0) hx hb dX1_clearness_19 (by decide) ?_
    refine lv_istore (lv' := [(4, .int 0), (3, .int (fX1_answerSize fl fn tr n (fX1_greatestPlace fl fn tr n))), (2, .int (fX1_greatestPlace fl fn tr n)), (0, .ref h), (1, .ref h2)]) hx hb dX1_clearness_20 hl (by decide) rfl (fun ls hl => ?_)
    refine lv_iconst (v := 0) hx hb dX1_clearness_22 (by decide) ?_
    refine lv_istore (lv' := [(5, .int 0), (4, .int 0), (3, .int (fX1_answerSize fl fn tr n (fX1_greatestPlace fl fn tr n))), (2, .int (fX1_greatestPlace fl fn tr n)), (0, .ref h), (1, .ref h2)]) hx hb dX1_clearness_23 hl (by decide) rfl (fun ls hl => ?_)
    have lp25 : ∀ (r25 k25 : Nat) (x4 : Int32) (ls : Array Slot), r25 = (fn + n - 1) - k25 → k25 ≤ (fn + n - 1) + 1 → lv_has ls 6 [(0, .ref h), (1, .ref h2), (2, .int (fX1_greatestPlace fl fn tr n)), (3, .int (fX1_answerSize fl fn tr n (fX1_greatestPlace fl fn tr n))), (4, .int x4), (5, .int (nI k25))] → F_X1_clearness_25 fl fn tr n r25 k25 x4 = T → W p l e (headSpec wsX1_clearness rmX1_clearness).room s m ([.ref h, .ref h2] : List Value).toArray below meth c s.heap [] 0 0 Q (F0 m 25 ls []) := by
      intro r25
      induction r25 with
      | zero =>
        intro k25 x4 ls hi25_0 hi25_1 hl hF
        rw [F_X1_clearness_25] at hF
        refine lv_iload hx hb dX1_clearness_25 (lv_at hl 5 rfl) ?_
        refine lv_aload_n hx hb dX1_clearness_27 rfl (lv_at hl 0 rfl) ?_
        refine va_get (D := D) (ci := 0) (v := .int (nI fn)) (C := RX1) (T := TX1) (N := 2) hx hb hts hinX1 hown hK.1 hP 0 rfl rfl 1 (by decide) hf13 (fun _ h9 => h9) rfl dX1_clearness_28 ?_
        refine lv_aload_n hx hb dX1_clearness_31 rfl (lv_at hl 1 rfl) ?_
        refine va_get (D := D) (ci := 3) (v := .int (nI n)) (C := RX5) (T := TX5) (N := 2) hx hb hts hinX5 hown hK.1 hP 2 rfl rfl 1 (by decide) hf17 (fun _ h9 => h9) rfl dX1_clearness_32 ?_
        refine lv_iadd hx hb dX1_clearness_35 ?_
        refine lv_iconst (v := 1) hx hb dX1_clearness_36 (by decide) ?_
        refine lv_isub hx hb dX1_clearness_37 ?_
        refine lv_icmp_ge (tgt := 67) hx hb dX1_clearness_38 (by decide) (fun c38 => ?_) (fun c38 => ?_)
        · skip
          refine lv_iload hx hb dX1_clearness_67 (lv_at hl 4 rfl) ?_
          refine lv_if_ne (tgt := 77) hx hb dX1_clearness_69 (by decide) (fun c69 => ?_) (fun c69 => ?_)
          · rw [if_neg c69] at hF
            refine lv_bipush (v := 10) hx hb dX1_clearness_77 (by decide) ?_
            refine lv_iload_n hx hb dX1_clearness_79 rfl (lv_at hl 3 rfl) ?_
            refine lv_imul hx hb dX1_clearness_80 ?_
            refine lv_iload hx hb dX1_clearness_81 (lv_at hl 4 rfl) ?_
            refine lv_idiv hx hb dX1_clearness_83 c69 ?_
            subst hQ
            exact W.iret (v := (10 * (fX1_answerSize fl fn tr n (fX1_greatestPlace fl fn tr n))) / x4) hx hb hr (fun u9 ht hW => ⟨_, rfl, hF, ht⟩) (fun q hq => by cases hq) dX1_clearness_84
          · rw [if_pos c69] at hF
            refine lv_ldc (v := 1000000) hx hb hown hcst50 dX1_clearness_72 ?_
            refine lv_goto (tgt := 84) hx hb dX1_clearness_74 (by decide) ?_
            subst hQ
            exact W.iret (v := 1000000) hx hb hr (fun u9 ht hW => ⟨_, rfl, hF, ht⟩) (fun q hq => by cases hq) dX1_clearness_84
        · exact False.elim (c38 (by rw [addm1 (by omega)]; exact nI_le (by omega) (by omega)))
      | succ r25 ih25 =>
        intro k25 x4 ls hi25_0 hi25_1 hl hF
        rw [F_X1_clearness_25] at hF
        refine lv_iload hx hb dX1_clearness_25 (lv_at hl 5 rfl) ?_
        refine lv_aload_n hx hb dX1_clearness_27 rfl (lv_at hl 0 rfl) ?_
        refine va_get (D := D) (ci := 0) (v := .int (nI fn)) (C := RX1) (T := TX1) (N := 2) hx hb hts hinX1 hown hK.1 hP 0 rfl rfl 1 (by decide) hf13 (fun _ h9 => h9) rfl dX1_clearness_28 ?_
        refine lv_aload_n hx hb dX1_clearness_31 rfl (lv_at hl 1 rfl) ?_
        refine va_get (D := D) (ci := 3) (v := .int (nI n)) (C := RX5) (T := TX5) (N := 2) hx hb hts hinX5 hown hK.1 hP 2 rfl rfl 1 (by decide) hf17 (fun _ h9 => h9) rfl dX1_clearness_32 ?_
        refine lv_iadd hx hb dX1_clearness_35 ?_
        refine lv_iconst (v := 1) hx hb dX1_clearness_36 (by decide) ?_
        refine lv_isub hx hb dX1_clearness_37 ?_
        refine lv_icmp_ge (tgt := 67) hx hb dX1_clearness_38 (by decide) (fun c38 => ?_) (fun c38 => ?_)
        · exact False.elim ((by rw [addm1 (by omega)] at c38; exact nI_ge (by omega) (by omega) c38))
        · skip
          refine lv_iload hx hb dX1_clearness_41 (lv_at hl 5 rfl) ?_
          refine lv_iload_n hx hb dX1_clearness_43 rfl (lv_at hl 2 rfl) ?_
          refine lv_icmp_eq (tgt := 61) hx hb dX1_clearness_44 (by decide) (fun c44 => ?_) (fun c44 => ?_)
          · rw [if_pos c44] at hF
            refine lv_iinc (v := nI (k25 + 1)) (lv' := [(5, .int (nI (k25 + 1))), (0, .ref h), (1, .ref h2), (2, .int (fX1_greatestPlace fl fn tr n)), (3, .int (fX1_answerSize fl fn tr n (fX1_greatestPlace fl fn tr n))), (4, .int x4)]) hx hb dX1_clearness_61 hl (k := 5) rfl (nI_1 _) (by decide) rfl (fun ls hl => ?_)
            refine lv_goto (tgt := 25) hx hb dX1_clearness_64 (by decide) ?_
            exact ih25 (k25 + 1) x4 ls (by omega) (by omega)  (lv_sub hl [1, 2, 3, 4, 5, 0] rfl) hF
          · rw [if_neg c44] at hF
            refine lv_iload hx hb dX1_clearness_47 (lv_at hl 4 rfl) ?_
            refine lv_aload_n hx hb dX1_clearness_49 rfl (lv_at hl 0 rfl) ?_
            refine lv_aload_n hx hb dX1_clearness_50 rfl (lv_at hl 1 rfl) ?_
            refine lv_iload hx hb dX1_clearness_51 (lv_at hl 5 rfl) ?_
            refine cs_i (va_runV (As := [.ref h2, .int (nI k25)]) (rest := [.int x4]) ⟨hx, hb, hml, hown, hts⟩ (c_X1_answerSize l D cI h t fl fn h2 t2 tr n (nI k25) (by first | assumption | omega) (by first | assumption | omega) (by first | assumption | omega)) (cwV 2 hts gX1_clearness_X1_answerSize rfl rfl rfl (by decide +kernel) ⟨(Nat.le_of_ble_eq_true rfl), (Nat.le_of_ble_eq_true rfl)⟩) (ro_preV hP hK rfl (q0 := 0) rfl) rfl rfl hl.1 rfl (lv_room (Nat.le_of_ble_eq_true rfl)) dX1_clearness_53 ⟨Nat.zero_le _, Nat.zero_le _⟩) ?_
            refine va_mmax hx hb (by rw [hml]; exact hl.1.symm) hown hml45 hst45 hiM hcd45 (Nat.le_of_ble_eq_true rfl) (Nat.le_of_ble_eq_true rfl) (Nat.zero_le _) (Nat.zero_le _) dX1_clearness_56 ?_
            refine lv_istore (lv' := [(4, .int (if x4 < (fX1_answerSize fl fn tr n (nI k25)) then fX1_answerSize fl fn tr n (nI k25) else x4)), (0, .ref h), (1, .ref h2), (2, .int (fX1_greatestPlace fl fn tr n)), (3, .int (fX1_answerSize fl fn tr n (fX1_greatestPlace fl fn tr n))), (5, .int (nI k25))]) hx hb dX1_clearness_59 hl (by decide) rfl (fun ls hl => ?_)
            refine lv_iinc (v := nI (k25 + 1)) (lv' := [(5, .int (nI (k25 + 1))), (4, .int (if x4 < (fX1_answerSize fl fn tr n (nI k25)) then fX1_answerSize fl fn tr n (nI k25) else x4)), (0, .ref h), (1, .ref h2), (2, .int (fX1_greatestPlace fl fn tr n)), (3, .int (fX1_answerSize fl fn tr n (fX1_greatestPlace fl fn tr n)))]) hx hb dX1_clearness_61 hl (k := 5) rfl (nI_1 _) (by decide) rfl (fun ls hl => ?_)
            refine lv_goto (tgt := 25) hx hb dX1_clearness_64 (by decide) ?_
            exact ih25 (k25 + 1) (if x4 < (fX1_answerSize fl fn tr n (nI k25)) then fX1_answerSize fl fn tr n (nI k25) else x4) ls (by omega) (by omega)  (lv_sub hl [2, 3, 4, 5, 1, 0] rfl) hF
    exact lp25 ((fn + n - 1) - 0) 0 0 ls rfl (by omega)  (lv_sub hl [4, 5, 3, 2, 1, 0] rfl) hF
  · rw [if_pos c14] at hF
    refine lv_iconst (v := 0) hx hb dX1_clearness_17 (by decide) ?_
    subst hQ
    exact W.iret (v := 0) hx hb hr (fun u9 ht hW => ⟨_, rfl, hF, ht⟩) (fun q hq => by cases hq) dX1_clearness_18
