theorem nI_sub1k {n k : Nat} (h : k + 1 ≤ n) : nI n - 1 - nI k = nI (n - 1 - k) := by
  rw [show (1 : Int32) = nI 1 from rfl, pk_sub (by omega), pk_sub (by omega)]
theorem nI_half {n : Nat} (h : n < 2 ^ 31) : nI n / 2 = nI (n / 2) := pk_div (d := 2) h (by omega) (by omega)
theorem late_inc (k : Nat) : nI k - 15 + 1 = nI (k + 1) - 15 := by
  rw [← nI_1 k, Int32.sub_eq_add_neg, Int32.sub_eq_add_neg, Int32.add_assoc, Int32.add_assoc, Int32.add_comm (-15) 1]
theorem late_tab : ∀ k : Fin 33, ((31 ≤ k.val) → (15 : Int32) < nI k.val - 15) ∧ ((k.val < 31) → ¬ (15 : Int32) < nI k.val - 15) := by decide
theorem late_out {k : Nat} (h : 31 ≤ k) (h2 : k ≤ 32) : (15 : Int32) < nI k - 15 := (late_tab ⟨k, by omega⟩).1 h
theorem late_in {k : Nat} (h : k < 31) : ¬ (15 : Int32) < nI k - 15 := (late_tab ⟨k, by omega⟩).2 h
theorem i32_le (a b : Int32) : a ≤ b ↔ a.toInt ≤ b.toInt := Int32.le_iff_toInt_le
theorem i32_lt (a b : Int32) : a < b ↔ a.toInt < b.toInt := Int32.lt_iff_toInt_lt
theorem within_0 {v lo hi : Int32} : ¬ fX6_within v lo hi = 0 ↔ (lo ≤ v ∧ v ≤ hi) := by
  unfold fX6_within
  simp only [i32_le, i32_lt]
  constructor
  · intro h
    split at h
    · exact absurd rfl h
    · split at h
      · exact absurd rfl h
      · omega
  · intro h
    rw [if_neg (by omega), if_neg (by omega)]
    decide
theorem nI_m1_toInt {n : Nat} (h : n < 2 ^ 30) : (nI n - 1).toInt = (n : Int) - 1 := pk_sub_toInt (b := 1) h (by omega)
theorem has_nat {n : Nat} {i : Int32} (h : ¬ fX5_has n i = 0) (hn : n < 2 ^ 30) : ∃ j, j < n ∧ i = nI j := by
  unfold fX5_has at h
  obtain ⟨h1, h2⟩ := within_0.mp h
  rw [i32_le] at h1 h2
  rw [nI_m1_toInt hn] at h2
  obtain ⟨j, hj, e⟩ := nI_of (x := i) (by rw [i32_lt]; simp only [show (0 : Int32).toInt = 0 from rfl] at h1 ⊢; omega)
  refine ⟨j, ?_, e⟩
  rw [e, nI_toInt hj] at h2
  omega
theorem has_in {n : Nat} {i : Int32} (h : ¬ fX5_has n i = 0) (hn : n ≤ 16) : vp_in i 16 := by
  obtain ⟨j, hj, e⟩ := has_nat h (by omega)
  rw [e]
  exact vp_in_nI (by omega) (by omega)
def F_X5_reset_7 (n2 : Nat) : Nat → Nat → (Nat → Int32) → (Nat × (Nat → Int32))
  | 0, k7, tr => (n2, tr)
  | r7 + 1, k7, tr => F_X5_reset_7 n2 r7 (k7 + 1) (upd tr k7 0)
def fX5_reset (tr : Nat → Int32) (n2 : Nat) : Nat × (Nat → Int32) := F_X5_reset_7 n2 (n2 - 0) 0 tr
abbrev rmX5_reset : Room := { frames := 0, cells := 0, slots := 0, locals := 0 }
set_option maxHeartbeats 4000000 in
set_option maxRecDepth 100000 in
theorem c_X5_reset (l : Launch) (D : va_G) (cI : ClassId) (sz : Nat) (h : Nat) (t : Nat) (tr : Nat → Int32) (n : Nat) (n2 : Nat) (hn2 : n2 ≤ 16) : Met l yX5_reset wsX5_reset rmX5_reset (va_Pc [.ref h, .int (nI n2)] (wrP D [(cI, .int)] [(h, .inr (3, [.ref t, .int (nI n)])), (t, .inl (cI, 16, .inl tr))] sz)) (va_Qv (fun (_ : Unit) => True) (fun _ u9 => va_P D vwCl [(h, .inr (3, [.ref t, .int (nI ((fX5_reset tr n2).1))])), (t, .inl (cI, 16, .inl ((fX5_reset tr n2).2)))] u9.heap) (va_A [(h, .inr (3, [.ref t, .int (nI n)])), (t, .inl (cI, 16, .inl tr))] sz)) 0 0 (va_A [(h, .inr (3, [.ref t, .int (nI n)])), (t, .inl (cI, 16, .inl tr))] sz) := by
  generalize hF : fX5_reset tr n2 = T
  refine Met.ofW (cc := cX5_reset) (maxL := 3) (ret := none) (by decide) rfl ?_
  intro p e s m args below meth c s₁ B hml hv
  obtain ⟨rfl, hsz, hP, hK, hD0⟩ := hv
  have hx := B.exec
  have hb := B.bytes
  have hr := B.returns
  have hts := atoms_spec (ws := wsX5_reset) B.pre
  have hown : s.vm.findClass RX5 = some m.cls := findClass_of_methodNamed B.named
  have hlocks := B.notSynchronized
  have hinX5 : ∀ w ∈ u_ws RX5 TX5 2, w ∈ wsX5_reset := by decide +kernel
  have hf13 := hts (.fieldLink RX5 13 "PulseSigns$Sign" "length" "I") (by decide +kernel)
  have hf9 := hts (.fieldLink RX5 9 "PulseSigns$Sign" "turns" "[I") (by decide +kernel)
  subst hsz
  have hD := hD0.self (sz := s.heap.size)
  generalize hAe : va_A [(h, .inr (3, [.ref t, .int (nI n)])), (t, .inl (cI, 16, .inl tr))] s.heap.size = A at hD ⊢
  have hA : ∀ q : Nat, s.heap.size ≤ q → A q := fun q h => by rw [← hAe]; exact Or.inr h
  have hS : va_S A s.heap s.heap [] := va_S.rf
  have hP : va_P D vwCl [(h, .inr (3, [.ref t, .int (nI n)])), (t, .inl (cI, 16, .inl tr))] s.heap := hP
  have hl := lv_entry ([.ref h, .int (nI n2)]) (n := 3) (Nat.le_of_ble_eq_true rfl)
  rw [lg_entry_eq]
  generalize (lg_sl ([.ref h, .int (nI n2)]) ++ List.replicate (3 - (lg_sl ([.ref h, .int (nI n2)])).length) Slot.unset).toArray = ls at hl ⊢
  refine w_Q (fun Q hQ => ?_)
  have hl : lv_has ls 3 [(0, .ref h), (1, .int (nI n2))] := hl
  rw [fX5_reset] at hF
  refine lv_aload_n hx hb dX5_reset_0 rfl (lv_at hl 0 rfl) ?_
  refine lv_iload_n hx hb dX5_reset_1 rfl (lv_at hl 1 rfl) ?_
  refine va_put (D := D) (ci := 3) (v := .int (nI n2)) (ty := .int) (C := RX5) (T := TX5) (N := 2) hx hb hts hinX5 tyX5 tyX5_ok nmX5 hown hK.1 hP hD hS 0 rfl rfl 1 (by decide) hf13 (fun _ h9 => h9) rfl (by decide +kernel) rfl rfl (Nat.le_of_ble_eq_true rfl) dX5_reset_2 (fun H locs hP hD hS => ?_)
  have hP : va_P D vwCl [(h, .inr (3, [.ref t, .int (nI n2)])), (t, .inl (cI, 16, .inl tr))] H := hP
  have hD : va_D A [(h, .inr (3, [.ref t, .int (nI n2)])), (t, .inl (cI, 16, .inl tr))] := hD
  refine lv_iconst (v := 0) hx hb dX5_reset_5 (by decide) ?_
  refine lv_istore_n (lv' := [(2, .int 0), (0, .ref h), (1, .int (nI n2))]) hx hb dX5_reset_6 rfl hl (by decide) rfl (fun ls hl => ?_)
  have lp7 : ∀ (r7 k7 : Nat) (tr : Nat → Int32) (H : Heap) (locs : List Loc) (ls : Array Slot), r7 = n2 - k7 → k7 ≤ n2 + 1 → va_P D vwCl [(h, .inr (3, [.ref t, .int (nI n2)])), (t, .inl (cI, 16, .inl tr))] H → va_D A [(h, .inr (3, [.ref t, .int (nI n2)])), (t, .inl (cI, 16, .inl tr))] → va_S A s.heap H locs → lv_has ls 3 [(0, .ref h), (1, .int (nI n2)), (2, .int (nI k7))] → F_X5_reset_7 n2 r7 k7 tr = T → W p l e (headSpec wsX5_reset rmX5_reset).room s m ([.ref h, .int (nI n2)] : List Value).toArray below meth c H locs 0 0 Q (F0 m 7 ls []) := by
    intro r7
    induction r7 with
    | zero =>
      intro k7 tr H locs ls hi7_0 hi7_1 hP hD hS hl hF
      rw [F_X5_reset_7] at hF
      refine lv_iload_n hx hb dX5_reset_7 rfl (lv_at hl 2 rfl) ?_
      refine lv_iload_n hx hb dX5_reset_8 rfl (lv_at hl 1 rfl) ?_
      refine lv_icmp_ge (tgt := 25) hx hb dX5_reset_9 (by decide) (fun c9 => ?_) (fun c9 => ?_)
      · skip
        subst hF
        subst hQ
        exact W.vret hx hb hr (fun u9 ht hW => ⟨⟨(), rfl, trivial, by rw [← ht] at hP; exact hP⟩, hS.F ht⟩) hS.2.2 dX5_reset_25
      · exact False.elim (c9 (nI_le (a := n2) (b := k7) (by omega) (by omega)))
    | succ r7 ih7 =>
      intro k7 tr H locs ls hi7_0 hi7_1 hP hD hS hl hF
      rw [F_X5_reset_7] at hF
      refine lv_iload_n hx hb dX5_reset_7 rfl (lv_at hl 2 rfl) ?_
      refine lv_iload_n hx hb dX5_reset_8 rfl (lv_at hl 1 rfl) ?_
      refine lv_icmp_ge (tgt := 25) hx hb dX5_reset_9 (by decide) (fun c9 => ?_) (fun c9 => ?_)
      · exact False.elim (nI_ge (a := k7) (b := n2) (by omega) (by omega) c9)
      · skip
        refine lv_aload_n hx hb dX5_reset_12 rfl (lv_at hl 0 rfl) ?_
        refine va_get (D := D) (ci := 3) (v := .ref t) (C := RX5) (T := TX5) (N := 2) hx hb hts hinX5 hown hK.1 hP 0 rfl rfl 0 (by decide) hf9 (fun _ h9 => h9) rfl dX5_reset_13 ?_
        refine lv_iload_n hx hb dX5_reset_16 rfl (lv_at hl 2 rfl) ?_
        refine lv_iconst (v := 0) hx hb dX5_reset_17 (by decide) ?_
        refine w_ast hx hb hK hP hD hS 1 0 rfl rfl (k7) rfl (by omega) (by omega) dX5_reset_18 (fun H locs hP hD hS => ?_)
        have hP : va_P D vwCl [(h, .inr (3, [.ref t, .int (nI n2)])), (t, .inl (cI, 16, .inl (upd tr k7 0)))] H := hP
        have hD : va_D A [(h, .inr (3, [.ref t, .int (nI n2)])), (t, .inl (cI, 16, .inl (upd tr k7 0)))] := hD
        refine lv_iinc (v := nI (k7 + 1)) (lv' := [(2, .int (nI (k7 + 1))), (0, .ref h), (1, .int (nI n2))]) hx hb dX5_reset_19 hl (k := 2) rfl (nI_1 _) (by decide) rfl (fun ls hl => ?_)
        refine lv_goto (tgt := 7) hx hb dX5_reset_22 (by decide) ?_
        exact ih7 (k7 + 1) (upd tr k7 0) H locs ls (by omega) (by omega) hP hD hS (lv_sub hl [1, 2, 0] rfl) hF
  exact lp7 (n2 - 0) 0 tr H _ ls rfl (by omega) hP hD hS (lv_sub hl [1, 2, 0] rfl) hF
def F_X5_copy_10 (tr2 : Nat → Int32) (n2 : Nat) : Nat → Nat → (Nat → Int32) → (Nat × (Nat → Int32))
  | 0, k10, tr => (n2, tr)
  | r10 + 1, k10, tr => F_X5_copy_10 tr2 n2 r10 (k10 + 1) (upd tr k10 (tr2 k10))
def fX5_copy (tr : Nat → Int32) (tr2 : Nat → Int32) (n2 : Nat) : Nat × (Nat → Int32) := F_X5_copy_10 tr2 n2 (n2 - 0) 0 tr
abbrev rmX5_copy : Room := { frames := 0, cells := 0, slots := 0, locals := 0 }
set_option maxHeartbeats 4000000 in
set_option maxRecDepth 100000 in
theorem c_X5_copy (l : Launch) (D : va_G) (cI : ClassId) (sz : Nat) (h : Nat) (t : Nat) (tr : Nat → Int32) (n : Nat) (h2 : Nat) (t2 : Nat) (tr2 : Nat → Int32) (n2 : Nat) (hn2 : n2 ≤ 16) : Met l yX5_copy wsX5_copy rmX5_copy (va_Pc [.ref h, .ref h2] (wrP D [(cI, .int)] [(h, .inr (3, [.ref t, .int (nI n)])), (t, .inl (cI, 16, .inl tr)), (h2, .inr (3, [.ref t2, .int (nI n2)])), (t2, .inl (cI, 16, .inl tr2))] sz)) (va_Qv (fun (_ : Unit) => True) (fun _ u9 => va_P D vwCl [(h, .inr (3, [.ref t, .int (nI ((fX5_copy tr tr2 n2).1))])), (t, .inl (cI, 16, .inl ((fX5_copy tr tr2 n2).2))), (h2, .inr (3, [.ref t2, .int (nI n2)])), (t2, .inl (cI, 16, .inl tr2))] u9.heap) (va_A [(h, .inr (3, [.ref t, .int (nI n)])), (t, .inl (cI, 16, .inl tr)), (h2, .inr (3, [.ref t2, .int (nI n2)])), (t2, .inl (cI, 16, .inl tr2))] sz)) 0 0 (va_A [(h, .inr (3, [.ref t, .int (nI n)])), (t, .inl (cI, 16, .inl tr)), (h2, .inr (3, [.ref t2, .int (nI n2)])), (t2, .inl (cI, 16, .inl tr2))] sz) := by
  generalize hF : fX5_copy tr tr2 n2 = T
  refine Met.ofW (cc := cX5_copy) (maxL := 3) (ret := none) (by decide) rfl ?_
  intro p e s m args below meth c s₁ B hml hv
  obtain ⟨rfl, hsz, hP, hK, hD0⟩ := hv
  have hx := B.exec
  have hb := B.bytes
  have hr := B.returns
  have hts := atoms_spec (ws := wsX5_copy) B.pre
  have hown : s.vm.findClass RX5 = some m.cls := findClass_of_methodNamed B.named
  have hlocks := B.notSynchronized
  have hinX5 : ∀ w ∈ u_ws RX5 TX5 2, w ∈ wsX5_copy := by decide +kernel
  have hf13 := hts (.fieldLink RX5 13 "PulseSigns$Sign" "length" "I") (by decide +kernel)
  have hf9 := hts (.fieldLink RX5 9 "PulseSigns$Sign" "turns" "[I") (by decide +kernel)
  subst hsz
  have hD := hD0.self (sz := s.heap.size)
  generalize hAe : va_A [(h, .inr (3, [.ref t, .int (nI n)])), (t, .inl (cI, 16, .inl tr)), (h2, .inr (3, [.ref t2, .int (nI n2)])), (t2, .inl (cI, 16, .inl tr2))] s.heap.size = A at hD ⊢
  have hA : ∀ q : Nat, s.heap.size ≤ q → A q := fun q h => by rw [← hAe]; exact Or.inr h
  have hS : va_S A s.heap s.heap [] := va_S.rf
  have hP : va_P D vwCl [(h, .inr (3, [.ref t, .int (nI n)])), (t, .inl (cI, 16, .inl tr)), (h2, .inr (3, [.ref t2, .int (nI n2)])), (t2, .inl (cI, 16, .inl tr2))] s.heap := hP
  have hl := lv_entry ([.ref h, .ref h2]) (n := 3) (Nat.le_of_ble_eq_true rfl)
  rw [lg_entry_eq]
  generalize (lg_sl ([.ref h, .ref h2]) ++ List.replicate (3 - (lg_sl ([.ref h, .ref h2])).length) Slot.unset).toArray = ls at hl ⊢
  refine w_Q (fun Q hQ => ?_)
  have hl : lv_has ls 3 [(0, .ref h), (1, .ref h2)] := hl
  rw [fX5_copy] at hF
  refine lv_aload_n hx hb dX5_copy_0 rfl (lv_at hl 0 rfl) ?_
  refine lv_aload_n hx hb dX5_copy_1 rfl (lv_at hl 1 rfl) ?_
  refine va_get (D := D) (ci := 3) (v := .int (nI n2)) (C := RX5) (T := TX5) (N := 2) hx hb hts hinX5 hown hK.1 hP 2 rfl rfl 1 (by decide) hf13 (fun _ h9 => h9) rfl dX5_copy_2 ?_
  refine va_put (D := D) (ci := 3) (v := .int (nI n2)) (ty := .int) (C := RX5) (T := TX5) (N := 2) hx hb hts hinX5 tyX5 tyX5_ok nmX5 hown hK.1 hP hD hS 0 rfl rfl 1 (by decide) hf13 (fun _ h9 => h9) rfl (by decide +kernel) rfl rfl (Nat.le_of_ble_eq_true rfl) dX5_copy_5 (fun H locs hP hD hS => ?_)
  have hP : va_P D vwCl [(h, .inr (3, [.ref t, .int (nI n2)])), (t, .inl (cI, 16, .inl tr)), (h2, .inr (3, [.ref t2, .int (nI n2)])), (t2, .inl (cI, 16, .inl tr2))] H := hP
  have hD : va_D A [(h, .inr (3, [.ref t, .int (nI n2)])), (t, .inl (cI, 16, .inl tr)), (h2, .inr (3, [.ref t2, .int (nI n2)])), (t2, .inl (cI, 16, .inl tr2))] := hD
  refine lv_iconst (v := 0) hx hb dX5_copy_8 (by decide) ?_
  refine lv_istore_n (lv' := [(2, .int 0), (0, .ref h), (1, .ref h2)]) hx hb dX5_copy_9 rfl hl (by decide) rfl (fun ls hl => ?_)
  have lp10 : ∀ (r10 k10 : Nat) (tr : Nat → Int32) (H : Heap) (locs : List Loc) (ls : Array Slot), r10 = n2 - k10 → k10 ≤ n2 + 1 → va_P D vwCl [(h, .inr (3, [.ref t, .int (nI n2)])), (t, .inl (cI, 16, .inl tr)), (h2, .inr (3, [.ref t2, .int (nI n2)])), (t2, .inl (cI, 16, .inl tr2))] H → va_D A [(h, .inr (3, [.ref t, .int (nI n2)])), (t, .inl (cI, 16, .inl tr)), (h2, .inr (3, [.ref t2, .int (nI n2)])), (t2, .inl (cI, 16, .inl tr2))] → va_S A s.heap H locs → lv_has ls 3 [(0, .ref h), (1, .ref h2), (2, .int (nI k10))] → F_X5_copy_10 tr2 n2 r10 k10 tr = T → W p l e (headSpec wsX5_copy rmX5_copy).room s m ([.ref h, .ref h2] : List Value).toArray below meth c H locs 0 0 Q (F0 m 10 ls []) := by
    intro r10
    induction r10 with
    | zero =>
      intro k10 tr H locs ls hi10_0 hi10_1 hP hD hS hl hF
      rw [F_X5_copy_10] at hF
      refine lv_iload_n hx hb dX5_copy_10 rfl (lv_at hl 2 rfl) ?_
      refine lv_aload_n hx hb dX5_copy_11 rfl (lv_at hl 1 rfl) ?_
      refine va_get (D := D) (ci := 3) (v := .int (nI n2)) (C := RX5) (T := TX5) (N := 2) hx hb hts hinX5 hown hK.1 hP 2 rfl rfl 1 (by decide) hf13 (fun _ h9 => h9) rfl dX5_copy_12 ?_
      refine lv_icmp_ge (tgt := 36) hx hb dX5_copy_15 (by decide) (fun c15 => ?_) (fun c15 => ?_)
      · skip
        subst hF
        subst hQ
        exact W.vret hx hb hr (fun u9 ht hW => ⟨⟨(), rfl, trivial, by rw [← ht] at hP; exact hP⟩, hS.F ht⟩) hS.2.2 dX5_copy_36
      · exact False.elim (c15 (nI_le (a := n2) (b := k10) (by omega) (by omega)))
    | succ r10 ih10 =>
      intro k10 tr H locs ls hi10_0 hi10_1 hP hD hS hl hF
      rw [F_X5_copy_10] at hF
      refine lv_iload_n hx hb dX5_copy_10 rfl (lv_at hl 2 rfl) ?_
      refine lv_aload_n hx hb dX5_copy_11 rfl (lv_at hl 1 rfl) ?_
      refine va_get (D := D) (ci := 3) (v := .int (nI n2)) (C := RX5) (T := TX5) (N := 2) hx hb hts hinX5 hown hK.1 hP 2 rfl rfl 1 (by decide) hf13 (fun _ h9 => h9) rfl dX5_copy_12 ?_
      refine lv_icmp_ge (tgt := 36) hx hb dX5_copy_15 (by decide) (fun c15 => ?_) (fun c15 => ?_)
      · exact False.elim (nI_ge (a := k10) (b := n2) (by omega) (by omega) c15)
      · skip
        refine lv_aload_n hx hb dX5_copy_18 rfl (lv_at hl 0 rfl) ?_
        refine va_get (D := D) (ci := 3) (v := .ref t) (C := RX5) (T := TX5) (N := 2) hx hb hts hinX5 hown hK.1 hP 0 rfl rfl 0 (by decide) hf9 (fun _ h9 => h9) rfl dX5_copy_19 ?_
        refine lv_iload_n hx hb dX5_copy_22 rfl (lv_at hl 2 rfl) ?_
        refine lv_aload_n hx hb dX5_copy_23 rfl (lv_at hl 1 rfl) ?_
        refine va_get (D := D) (ci := 3) (v := .ref t2) (C := RX5) (T := TX5) (N := 2) hx hb hts hinX5 hown hK.1 hP 2 rfl rfl 0 (by decide) hf9 (fun _ h9 => h9) rfl dX5_copy_24 ?_
        refine lv_iload_n hx hb dX5_copy_27 rfl (lv_at hl 2 rfl) ?_
        refine w_ald hx hb hK hP 3 0 rfl rfl (k10) rfl (by omega) (by omega) dX5_copy_28 ?_
        refine w_ast hx hb hK hP hD hS 1 0 rfl rfl (k10) rfl (by omega) (by omega) dX5_copy_29 (fun H locs hP hD hS => ?_)
        have hP : va_P D vwCl [(h, .inr (3, [.ref t, .int (nI n2)])), (t, .inl (cI, 16, .inl (upd tr k10 (tr2 k10)))), (h2, .inr (3, [.ref t2, .int (nI n2)])), (t2, .inl (cI, 16, .inl tr2))] H := hP
        have hD : va_D A [(h, .inr (3, [.ref t, .int (nI n2)])), (t, .inl (cI, 16, .inl (upd tr k10 (tr2 k10)))), (h2, .inr (3, [.ref t2, .int (nI n2)])), (t2, .inl (cI, 16, .inl tr2))] := hD
        refine lv_iinc (v := nI (k10 + 1)) (lv' := [(2, .int (nI (k10 + 1))), (0, .ref h), (1, .ref h2)]) hx hb dX5_copy_30 hl (k := 2) rfl (nI_1 _) (by decide) rfl (fun ls hl => ?_)
        refine lv_goto (tgt := 10) hx hb dX5_copy_33 (by decide) ?_
        exact ih10 (k10 + 1) (upd tr k10 (tr2 k10)) H locs ls (by omega) (by omega) hP hD hS (lv_sub hl [1, 2, 0] rfl) hF
  exact lp10 (n2 - 0) 0 tr H _ ls rfl (by omega) hP hD hS (lv_sub hl [1, 2, 0] rfl) hF
def F_X5_copy_same_10 (n : Nat) : Nat → Nat → (Nat → Int32) → (Nat × (Nat → Int32))
  | 0, k10, tr => (n, tr)
  | r10 + 1, k10, tr => F_X5_copy_same_10 n r10 (k10 + 1) (upd tr k10 (tr k10))
def fX5_copy_same (tr : Nat → Int32) (n : Nat) : Nat × (Nat → Int32) := F_X5_copy_same_10 n (n - 0) 0 tr
abbrev rmX5_copy_same : Room := { frames := 0, cells := 0, slots := 0, locals := 0 }
set_option maxHeartbeats 4000000 in
set_option maxRecDepth 100000 in
theorem c_X5_copy_same (l : Launch) (D : va_G) (cI : ClassId) (sz : Nat) (h : Nat) (t : Nat) (tr : Nat → Int32) (n : Nat) (hn : n ≤ 16) : Met l yX5_copy wsX5_copy rmX5_copy_same (va_Pc [.ref h, .ref h] (wrP D [(cI, .int)] [(h, .inr (3, [.ref t, .int (nI n)])), (t, .inl (cI, 16, .inl tr))] sz)) (va_Qv (fun (_ : Unit) => True) (fun _ u9 => va_P D vwCl [(h, .inr (3, [.ref t, .int (nI ((fX5_copy_same tr n).1))])), (t, .inl (cI, 16, .inl ((fX5_copy_same tr n).2)))] u9.heap) (va_A [(h, .inr (3, [.ref t, .int (nI n)])), (t, .inl (cI, 16, .inl tr))] sz)) 0 0 (va_A [(h, .inr (3, [.ref t, .int (nI n)])), (t, .inl (cI, 16, .inl tr))] sz) := by
  generalize hF : fX5_copy_same tr n = T
  refine Met.ofW (cc := cX5_copy) (maxL := 3) (ret := none) (by decide) rfl ?_
  intro p e s m args below meth c s₁ B hml hv
  obtain ⟨rfl, hsz, hP, hK, hD0⟩ := hv
  have hx := B.exec
  have hb := B.bytes
  have hr := B.returns
  have hts := atoms_spec (ws := wsX5_copy) B.pre
  have hown : s.vm.findClass RX5 = some m.cls := findClass_of_methodNamed B.named
  have hlocks := B.notSynchronized
  have hinX5 : ∀ w ∈ u_ws RX5 TX5 2, w ∈ wsX5_copy := by decide +kernel
  have hf13 := hts (.fieldLink RX5 13 "PulseSigns$Sign" "length" "I") (by decide +kernel)
  have hf9 := hts (.fieldLink RX5 9 "PulseSigns$Sign" "turns" "[I") (by decide +kernel)
  subst hsz
  have hD := hD0.self (sz := s.heap.size)
  generalize hAe : va_A [(h, .inr (3, [.ref t, .int (nI n)])), (t, .inl (cI, 16, .inl tr))] s.heap.size = A at hD ⊢
  have hA : ∀ q : Nat, s.heap.size ≤ q → A q := fun q h => by rw [← hAe]; exact Or.inr h
  have hS : va_S A s.heap s.heap [] := va_S.rf
  have hP : va_P D vwCl [(h, .inr (3, [.ref t, .int (nI n)])), (t, .inl (cI, 16, .inl tr))] s.heap := hP
  have hl := lv_entry ([.ref h, .ref h]) (n := 3) (Nat.le_of_ble_eq_true rfl)
  rw [lg_entry_eq]
  generalize (lg_sl ([.ref h, .ref h]) ++ List.replicate (3 - (lg_sl ([.ref h, .ref h])).length) Slot.unset).toArray = ls at hl ⊢
  refine w_Q (fun Q hQ => ?_)
  have hl : lv_has ls 3 [(0, .ref h), (1, .ref h)] := hl
  rw [fX5_copy_same] at hF
  refine lv_aload_n hx hb dX5_copy_0 rfl (lv_at hl 0 rfl) ?_
  refine lv_aload_n hx hb dX5_copy_1 rfl (lv_at hl 1 rfl) ?_
  refine va_get (D := D) (ci := 3) (v := .int (nI n)) (C := RX5) (T := TX5) (N := 2) hx hb hts hinX5 hown hK.1 hP 0 rfl rfl 1 (by decide) hf13 (fun _ h9 => h9) rfl dX5_copy_2 ?_
  refine va_put (D := D) (ci := 3) (v := .int (nI n)) (ty := .int) (C := RX5) (T := TX5) (N := 2) hx hb hts hinX5 tyX5 tyX5_ok nmX5 hown hK.1 hP hD hS 0 rfl rfl 1 (by decide) hf13 (fun _ h9 => h9) rfl (by decide +kernel) rfl rfl (Nat.le_of_ble_eq_true rfl) dX5_copy_5 (fun H locs hP hD hS => ?_)
  have hP : va_P D vwCl [(h, .inr (3, [.ref t, .int (nI n)])), (t, .inl (cI, 16, .inl tr))] H := hP
  have hD : va_D A [(h, .inr (3, [.ref t, .int (nI n)])), (t, .inl (cI, 16, .inl tr))] := hD
  refine lv_iconst (v := 0) hx hb dX5_copy_8 (by decide) ?_
  refine lv_istore_n (lv' := [(2, .int 0), (0, .ref h), (1, .ref h)]) hx hb dX5_copy_9 rfl hl (by decide) rfl (fun ls hl => ?_)
  have lp10 : ∀ (r10 k10 : Nat) (tr : Nat → Int32) (H : Heap) (locs : List Loc) (ls : Array Slot), r10 = n - k10 → k10 ≤ n + 1 → va_P D vwCl [(h, .inr (3, [.ref t, .int (nI n)])), (t, .inl (cI, 16, .inl tr))] H → va_D A [(h, .inr (3, [.ref t, .int (nI n)])), (t, .inl (cI, 16, .inl tr))] → va_S A s.heap H locs → lv_has ls 3 [(0, .ref h), (1, .ref h), (2, .int (nI k10))] → F_X5_copy_same_10 n r10 k10 tr = T → W p l e (headSpec wsX5_copy rmX5_copy_same).room s m ([.ref h, .ref h] : List Value).toArray below meth c H locs 0 0 Q (F0 m 10 ls []) := by
    intro r10
    induction r10 with
    | zero =>
      intro k10 tr H locs ls hi10_0 hi10_1 hP hD hS hl hF
      rw [F_X5_copy_same_10] at hF
      refine lv_iload_n hx hb dX5_copy_10 rfl (lv_at hl 2 rfl) ?_
      refine lv_aload_n hx hb dX5_copy_11 rfl (lv_at hl 1 rfl) ?_
      refine va_get (D := D) (ci := 3) (v := .int (nI n)) (C := RX5) (T := TX5) (N := 2) hx hb hts hinX5 hown hK.1 hP 0 rfl rfl 1 (by decide) hf13 (fun _ h9 => h9) rfl dX5_copy_12 ?_
      refine lv_icmp_ge (tgt := 36) hx hb dX5_copy_15 (by decide) (fun c15 => ?_) (fun c15 => ?_)
      · skip
        subst hF
        subst hQ
        exact W.vret hx hb hr (fun u9 ht hW => ⟨⟨(), rfl, trivial, by rw [← ht] at hP; exact hP⟩, hS.F ht⟩) hS.2.2 dX5_copy_36
      · exact False.elim (c15 (nI_le (a := n) (b := k10) (by omega) (by omega)))
    | succ r10 ih10 =>
      intro k10 tr H locs ls hi10_0 hi10_1 hP hD hS hl hF
      rw [F_X5_copy_same_10] at hF
      refine lv_iload_n hx hb dX5_copy_10 rfl (lv_at hl 2 rfl) ?_
      refine lv_aload_n hx hb dX5_copy_11 rfl (lv_at hl 1 rfl) ?_
      refine va_get (D := D) (ci := 3) (v := .int (nI n)) (C := RX5) (T := TX5) (N := 2) hx hb hts hinX5 hown hK.1 hP 0 rfl rfl 1 (by decide) hf13 (fun _ h9 => h9) rfl dX5_copy_12 ?_
      refine lv_icmp_ge (tgt := 36) hx hb dX5_copy_15 (by decide) (fun c15 => ?_) (fun c15 => ?_)
      · exact False.elim (nI_ge (a := k10) (b := n) (by omega) (by omega) c15)
      · skip
        refine lv_aload_n hx hb dX5_copy_18 rfl (lv_at hl 0 rfl) ?_
        refine va_get (D := D) (ci := 3) (v := .ref t) (C := RX5) (T := TX5) (N := 2) hx hb hts hinX5 hown hK.1 hP 0 rfl rfl 0 (by decide) hf9 (fun _ h9 => h9) rfl dX5_copy_19 ?_
        refine lv_iload_n hx hb dX5_copy_22 rfl (lv_at hl 2 rfl) ?_
        refine lv_aload_n hx hb dX5_copy_23 rfl (lv_at hl 1 rfl) ?_
        refine va_get (D := D) (ci := 3) (v := .ref t) (C := RX5) (T := TX5) (N := 2) hx hb hts hinX5 hown hK.1 hP 0 rfl rfl 0 (by decide) hf9 (fun _ h9 => h9) rfl dX5_copy_24 ?_
        refine lv_iload_n hx hb dX5_copy_27 rfl (lv_at hl 2 rfl) ?_
        refine w_ald hx hb hK hP 1 0 rfl rfl (k10) rfl (by omega) (by omega) dX5_copy_28 ?_
        refine w_ast hx hb hK hP hD hS 1 0 rfl rfl (k10) rfl (by omega) (by omega) dX5_copy_29 (fun H locs hP hD hS => ?_)
        have hP : va_P D vwCl [(h, .inr (3, [.ref t, .int (nI n)])), (t, .inl (cI, 16, .inl (upd tr k10 (tr k10))))] H := hP
        have hD : va_D A [(h, .inr (3, [.ref t, .int (nI n)])), (t, .inl (cI, 16, .inl (upd tr k10 (tr k10))))] := hD
        refine lv_iinc (v := nI (k10 + 1)) (lv' := [(2, .int (nI (k10 + 1))), (0, .ref h), (1, .ref h)]) hx hb dX5_copy_30 hl (k := 2) rfl (nI_1 _) (by decide) rfl (fun ls hl => ?_)
        refine lv_goto (tgt := 10) hx hb dX5_copy_33 (by decide) ?_
        exact ih10 (k10 + 1) (upd tr k10 (tr k10)) H locs ls (by omega) (by omega) hP hD hS (lv_sub hl [1, 2, 0] rfl) hF
  exact lp10 (n - 0) 0 tr H _ ls rfl (by omega) hP hD hS (lv_sub hl [1, 2, 0] rfl) hF
def F_X5_reverse_2 (n : Nat) : Nat → Nat → (Nat → Int32) → (Nat → Int32)
  | 0, k2, tr => tr
  | r2 + 1, k2, tr => F_X5_reverse_2 n r2 (k2 + 1) (upd (upd tr k2 (tr (n - 1 - k2))) (n - 1 - k2) (tr k2))
def fX5_reverse (tr : Nat → Int32) (n : Nat) : (Nat → Int32) := F_X5_reverse_2 n ((n / 2) - 0) 0 tr
abbrev rmX5_reverse : Room := { frames := 0, cells := 0, slots := 0, locals := 0 }
set_option maxHeartbeats 4000000 in
set_option maxRecDepth 100000 in
theorem c_X5_reverse (l : Launch) (D : va_G) (cI : ClassId) (sz : Nat) (h : Nat) (t : Nat) (tr : Nat → Int32) (n : Nat) (hn : n ≤ 16) : Met l yX5_reverse wsX5_reverse rmX5_reverse (va_Pc [.ref h] (wrP D [(cI, .int)] [(h, .inr (3, [.ref t, .int (nI n)])), (t, .inl (cI, 16, .inl tr))] sz)) (va_Qv (fun (_ : Unit) => True) (fun _ u9 => va_P D vwCl [(h, .inr (3, [.ref t, .int (nI n)])), (t, .inl (cI, 16, .inl (fX5_reverse tr n)))] u9.heap) (va_A [(h, .inr (3, [.ref t, .int (nI n)])), (t, .inl (cI, 16, .inl tr))] sz)) 0 0 (va_A [(h, .inr (3, [.ref t, .int (nI n)])), (t, .inl (cI, 16, .inl tr))] sz) := by
  generalize hF : fX5_reverse tr n = T
  refine Met.ofW (cc := cX5_reverse) (maxL := 3) (ret := none) (by decide) rfl ?_
  intro p e s m args below meth c s₁ B hml hv
  obtain ⟨rfl, hsz, hP, hK, hD0⟩ := hv
  have hx := B.exec
  have hb := B.bytes
  have hr := B.returns
  have hts := atoms_spec (ws := wsX5_reverse) B.pre
  have hown : s.vm.findClass RX5 = some m.cls := findClass_of_methodNamed B.named
  have hlocks := B.notSynchronized
  have hinX5 : ∀ w ∈ u_ws RX5 TX5 2, w ∈ wsX5_reverse := by decide +kernel
  have hf13 := hts (.fieldLink RX5 13 "PulseSigns$Sign" "length" "I") (by decide +kernel)
  have hf9 := hts (.fieldLink RX5 9 "PulseSigns$Sign" "turns" "[I") (by decide +kernel)
  subst hsz
  have hD := hD0.self (sz := s.heap.size)
  generalize hAe : va_A [(h, .inr (3, [.ref t, .int (nI n)])), (t, .inl (cI, 16, .inl tr))] s.heap.size = A at hD ⊢
  have hA : ∀ q : Nat, s.heap.size ≤ q → A q := fun q h => by rw [← hAe]; exact Or.inr h
  have hS : va_S A s.heap s.heap [] := va_S.rf
  have hP : va_P D vwCl [(h, .inr (3, [.ref t, .int (nI n)])), (t, .inl (cI, 16, .inl tr))] s.heap := hP
  have hl := lv_entry ([.ref h]) (n := 3) (Nat.le_of_ble_eq_true rfl)
  rw [lg_entry_eq]
  generalize (lg_sl ([.ref h]) ++ List.replicate (3 - (lg_sl ([.ref h])).length) Slot.unset).toArray = ls at hl ⊢
  refine w_Q (fun Q hQ => ?_)
  have hl : lv_has ls 3 [(0, .ref h)] := hl
  rw [fX5_reverse] at hF
  refine lv_iconst (v := 0) hx hb dX5_reverse_0 (by decide) ?_
  refine lv_istore_n (lv' := [(1, .int 0), (0, .ref h)]) hx hb dX5_reverse_1 rfl hl (by decide) rfl (fun ls hl => ?_)
  have lp2 : ∀ (r2 k2 : Nat) (tr : Nat → Int32) (H : Heap) (locs : List Loc) (ls : Array Slot), r2 = (n / 2) - k2 → k2 ≤ (n / 2) + 1 → va_P D vwCl [(h, .inr (3, [.ref t, .int (nI n)])), (t, .inl (cI, 16, .inl tr))] H → va_D A [(h, .inr (3, [.ref t, .int (nI n)])), (t, .inl (cI, 16, .inl tr))] → va_S A s.heap H locs → lv_has ls 3 [(0, .ref h), (1, .int (nI k2))] → F_X5_reverse_2 n r2 k2 tr = T → W p l e (headSpec wsX5_reverse rmX5_reverse).room s m ([.ref h] : List Value).toArray below meth c H locs 0 0 Q (F0 m 2 ls []) := by
    intro r2
    induction r2 with
    | zero =>
      intro k2 tr H locs ls hi2_0 hi2_1 hP hD hS hl hF
      rw [F_X5_reverse_2] at hF
      refine lv_iload_n hx hb dX5_reverse_2 rfl (lv_at hl 1 rfl) ?_
      refine lv_aload_n hx hb dX5_reverse_3 rfl (lv_at hl 0 rfl) ?_
      refine va_get (D := D) (ci := 3) (v := .int (nI n)) (C := RX5) (T := TX5) (N := 2) hx hb hts hinX5 hown hK.1 hP 0 rfl rfl 1 (by decide) hf13 (fun _ h9 => h9) rfl dX5_reverse_4 ?_
      refine lv_iconst (v := 2) hx hb dX5_reverse_7 (by decide) ?_
      refine lv_idiv hx hb dX5_reverse_8 (by decide) ?_
      refine lv_icmp_ge (tgt := 58) hx hb dX5_reverse_9 (by decide) (fun c9 => ?_) (fun c9 => ?_)
      · skip
        subst hF
        subst hQ
        exact W.vret hx hb hr (fun u9 ht hW => ⟨⟨(), rfl, trivial, by rw [← ht] at hP; exact hP⟩, hS.F ht⟩) hS.2.2 dX5_reverse_58
      · exact False.elim (c9 (by rw [nI_half (by omega)]; exact nI_le (by omega) (by omega)))
    | succ r2 ih2 =>
      intro k2 tr H locs ls hi2_0 hi2_1 hP hD hS hl hF
      rw [F_X5_reverse_2] at hF
      refine lv_iload_n hx hb dX5_reverse_2 rfl (lv_at hl 1 rfl) ?_
      refine lv_aload_n hx hb dX5_reverse_3 rfl (lv_at hl 0 rfl) ?_
      refine va_get (D := D) (ci := 3) (v := .int (nI n)) (C := RX5) (T := TX5) (N := 2) hx hb hts hinX5 hown hK.1 hP 0 rfl rfl 1 (by decide) hf13 (fun _ h9 => h9) rfl dX5_reverse_4 ?_
      refine lv_iconst (v := 2) hx hb dX5_reverse_7 (by decide) ?_
      refine lv_idiv hx hb dX5_reverse_8 (by decide) ?_
      refine lv_icmp_ge (tgt := 58) hx hb dX5_reverse_9 (by decide) (fun c9 => ?_) (fun c9 => ?_)
      · exact False.elim ((by rw [nI_half (by omega)] at c9; exact nI_ge (by omega) (by omega) c9))
      · skip
        refine lv_aload_n hx hb dX5_reverse_12 rfl (lv_at hl 0 rfl) ?_
        refine va_get (D := D) (ci := 3) (v := .ref t) (C := RX5) (T := TX5) (N := 2) hx hb hts hinX5 hown hK.1 hP 0 rfl rfl 0 (by decide) hf9 (fun _ h9 => h9) rfl dX5_reverse_13 ?_
        refine lv_iload_n hx hb dX5_reverse_16 rfl (lv_at hl 1 rfl) ?_
        refine w_ald hx hb hK hP 1 0 rfl rfl (k2) rfl (by omega) (by omega) dX5_reverse_17 ?_
        refine lv_istore_n (lv' := [(2, .int (tr k2)), (0, .ref h), (1, .int (nI k2))]) hx hb dX5_reverse_18 rfl hl (by decide) rfl (fun ls hl => ?_)
        refine lv_aload_n hx hb dX5_reverse_19 rfl (lv_at hl 1 rfl) ?_
        refine va_get (D := D) (ci := 3) (v := .ref t) (C := RX5) (T := TX5) (N := 2) hx hb hts hinX5 hown hK.1 hP 0 rfl rfl 0 (by decide) hf9 (fun _ h9 => h9) rfl dX5_reverse_20 ?_
        refine lv_iload_n hx hb dX5_reverse_23 rfl (lv_at hl 2 rfl) ?_
        refine lv_aload_n hx hb dX5_reverse_24 rfl (lv_at hl 1 rfl) ?_
        refine va_get (D := D) (ci := 3) (v := .ref t) (C := RX5) (T := TX5) (N := 2) hx hb hts hinX5 hown hK.1 hP 0 rfl rfl 0 (by decide) hf9 (fun _ h9 => h9) rfl dX5_reverse_25 ?_
        refine lv_aload_n hx hb dX5_reverse_28 rfl (lv_at hl 1 rfl) ?_
        refine va_get (D := D) (ci := 3) (v := .int (nI n)) (C := RX5) (T := TX5) (N := 2) hx hb hts hinX5 hown hK.1 hP 0 rfl rfl 1 (by decide) hf13 (fun _ h9 => h9) rfl dX5_reverse_29 ?_
        refine lv_iconst (v := 1) hx hb dX5_reverse_32 (by decide) ?_
        refine lv_isub hx hb dX5_reverse_33 ?_
        refine lv_iload_n hx hb dX5_reverse_34 rfl (lv_at hl 2 rfl) ?_
        refine lv_isub hx hb dX5_reverse_35 ?_
        refine w_ald hx hb hK hP 1 0 rfl rfl (n - 1 - k2) (nI_sub1k (by omega)) (by omega) (by omega) dX5_reverse_36 ?_
        refine w_ast hx hb hK hP hD hS 1 0 rfl rfl (k2) rfl (by omega) (by omega) dX5_reverse_37 (fun H locs hP hD hS => ?_)
        have hP : va_P D vwCl [(h, .inr (3, [.ref t, .int (nI n)])), (t, .inl (cI, 16, .inl (upd tr k2 (tr (n - 1 - k2)))))] H := hP
        have hD : va_D A [(h, .inr (3, [.ref t, .int (nI n)])), (t, .inl (cI, 16, .inl (upd tr k2 (tr (n - 1 - k2)))))] := hD
        refine lv_aload_n hx hb dX5_reverse_38 rfl (lv_at hl 1 rfl) ?_
        refine va_get (D := D) (ci := 3) (v := .ref t) (C := RX5) (T := TX5) (N := 2) hx hb hts hinX5 hown hK.1 hP 0 rfl rfl 0 (by decide) hf9 (fun _ h9 => h9) rfl dX5_reverse_39 ?_
        refine lv_aload_n hx hb dX5_reverse_42 rfl (lv_at hl 1 rfl) ?_
        refine va_get (D := D) (ci := 3) (v := .int (nI n)) (C := RX5) (T := TX5) (N := 2) hx hb hts hinX5 hown hK.1 hP 0 rfl rfl 1 (by decide) hf13 (fun _ h9 => h9) rfl dX5_reverse_43 ?_
        refine lv_iconst (v := 1) hx hb dX5_reverse_46 (by decide) ?_
        refine lv_isub hx hb dX5_reverse_47 ?_
        refine lv_iload_n hx hb dX5_reverse_48 rfl (lv_at hl 2 rfl) ?_
        refine lv_isub hx hb dX5_reverse_49 ?_
        refine lv_iload_n hx hb dX5_reverse_50 rfl (lv_at hl 0 rfl) ?_
        refine w_ast hx hb hK hP hD hS 1 0 rfl rfl (n - 1 - k2) (nI_sub1k (by omega)) (by omega) (by omega) dX5_reverse_51 (fun H locs hP hD hS => ?_)
        have hP : va_P D vwCl [(h, .inr (3, [.ref t, .int (nI n)])), (t, .inl (cI, 16, .inl (upd (upd tr k2 (tr (n - 1 - k2))) (n - 1 - k2) (tr k2))))] H := hP
        have hD : va_D A [(h, .inr (3, [.ref t, .int (nI n)])), (t, .inl (cI, 16, .inl (upd (upd tr k2 (tr (n - 1 - k2))) (n - 1 - k2) (tr k2))))] := hD
        refine lv_iinc (v := nI (k2 + 1)) (lv' := [(1, .int (nI (k2 + 1))), (2, .int (tr k2)), (0, .ref h)]) hx hb dX5_reverse_52 hl (k := 2) rfl (nI_1 _) (by decide) rfl (fun ls hl => ?_)
        refine lv_goto (tgt := 2) hx hb dX5_reverse_55 (by decide) ?_
        exact ih2 (k2 + 1) (upd (upd tr k2 (tr (n - 1 - k2))) (n - 1 - k2) (tr k2)) H locs ls (by omega) (by omega) hP hD hS (lv_sub hl [2, 0] rfl) hF
  exact lp2 ((n / 2) - 0) 0 tr s.heap _ ls rfl (by omega) hP hD hS (lv_sub hl [1, 0] rfl) hF
def F_X5_mirror_2  : Nat → Nat → (Nat → Int32) → (Nat → Int32)
  | 0, k2, tr => tr
  | r2 + 1, k2, tr => F_X5_mirror_2  r2 (k2 + 1) (upd tr k2 ((-(tr k2)) &&& 3))
def fX5_mirror (tr : Nat → Int32) (n : Nat) : (Nat → Int32) := F_X5_mirror_2  (n - 0) 0 tr
abbrev rmX5_mirror : Room := { frames := 0, cells := 0, slots := 0, locals := 0 }
set_option maxHeartbeats 4000000 in
set_option maxRecDepth 100000 in
theorem c_X5_mirror (l : Launch) (D : va_G) (cI : ClassId) (sz : Nat) (h : Nat) (t : Nat) (tr : Nat → Int32) (n : Nat) (hn : n ≤ 16) : Met l yX5_mirror wsX5_mirror rmX5_mirror (va_Pc [.ref h] (wrP D [(cI, .int)] [(h, .inr (3, [.ref t, .int (nI n)])), (t, .inl (cI, 16, .inl tr))] sz)) (va_Qv (fun (_ : Unit) => True) (fun _ u9 => va_P D vwCl [(h, .inr (3, [.ref t, .int (nI n)])), (t, .inl (cI, 16, .inl (fX5_mirror tr n)))] u9.heap) (va_A [(h, .inr (3, [.ref t, .int (nI n)])), (t, .inl (cI, 16, .inl tr))] sz)) 0 0 (va_A [(h, .inr (3, [.ref t, .int (nI n)])), (t, .inl (cI, 16, .inl tr))] sz) := by
  generalize hF : fX5_mirror tr n = T
  refine Met.ofW (cc := cX5_mirror) (maxL := 2) (ret := none) (by decide) rfl ?_
  intro p e s m args below meth c s₁ B hml hv
  obtain ⟨rfl, hsz, hP, hK, hD0⟩ := hv
  have hx := B.exec
  have hb := B.bytes
  have hr := B.returns
  have hts := atoms_spec (ws := wsX5_mirror) B.pre
  have hown : s.vm.findClass RX5 = some m.cls := findClass_of_methodNamed B.named
  have hlocks := B.notSynchronized
  have hinX5 : ∀ w ∈ u_ws RX5 TX5 2, w ∈ wsX5_mirror := by decide +kernel
  have hf13 := hts (.fieldLink RX5 13 "PulseSigns$Sign" "length" "I") (by decide +kernel)
  have hf9 := hts (.fieldLink RX5 9 "PulseSigns$Sign" "turns" "[I") (by decide +kernel)
  subst hsz
  have hD := hD0.self (sz := s.heap.size)
  generalize hAe : va_A [(h, .inr (3, [.ref t, .int (nI n)])), (t, .inl (cI, 16, .inl tr))] s.heap.size = A at hD ⊢
  have hA : ∀ q : Nat, s.heap.size ≤ q → A q := fun q h => by rw [← hAe]; exact Or.inr h
  have hS : va_S A s.heap s.heap [] := va_S.rf
  have hP : va_P D vwCl [(h, .inr (3, [.ref t, .int (nI n)])), (t, .inl (cI, 16, .inl tr))] s.heap := hP
  have hl := lv_entry ([.ref h]) (n := 2) (Nat.le_of_ble_eq_true rfl)
  rw [lg_entry_eq]
  generalize (lg_sl ([.ref h]) ++ List.replicate (2 - (lg_sl ([.ref h])).length) Slot.unset).toArray = ls at hl ⊢
  refine w_Q (fun Q hQ => ?_)
  have hl : lv_has ls 2 [(0, .ref h)] := hl
  rw [fX5_mirror] at hF
  refine lv_iconst (v := 0) hx hb dX5_mirror_0 (by decide) ?_
  refine lv_istore_n (lv' := [(1, .int 0), (0, .ref h)]) hx hb dX5_mirror_1 rfl hl (by decide) rfl (fun ls hl => ?_)
  have lp2 : ∀ (r2 k2 : Nat) (tr : Nat → Int32) (H : Heap) (locs : List Loc) (ls : Array Slot), r2 = n - k2 → k2 ≤ n + 1 → va_P D vwCl [(h, .inr (3, [.ref t, .int (nI n)])), (t, .inl (cI, 16, .inl tr))] H → va_D A [(h, .inr (3, [.ref t, .int (nI n)])), (t, .inl (cI, 16, .inl tr))] → va_S A s.heap H locs → lv_has ls 2 [(0, .ref h), (1, .int (nI k2))] → F_X5_mirror_2  r2 k2 tr = T → W p l e (headSpec wsX5_mirror rmX5_mirror).room s m ([.ref h] : List Value).toArray below meth c H locs 0 0 Q (F0 m 2 ls []) := by
    intro r2
    induction r2 with
    | zero =>
      intro k2 tr H locs ls hi2_0 hi2_1 hP hD hS hl hF
      rw [F_X5_mirror_2] at hF
      refine lv_iload_n hx hb dX5_mirror_2 rfl (lv_at hl 1 rfl) ?_
      refine lv_aload_n hx hb dX5_mirror_3 rfl (lv_at hl 0 rfl) ?_
      refine va_get (D := D) (ci := 3) (v := .int (nI n)) (C := RX5) (T := TX5) (N := 2) hx hb hts hinX5 hown hK.1 hP 0 rfl rfl 1 (by decide) hf13 (fun _ h9 => h9) rfl dX5_mirror_4 ?_
      refine lv_icmp_ge (tgt := 31) hx hb dX5_mirror_7 (by decide) (fun c7 => ?_) (fun c7 => ?_)
      · skip
        subst hF
        subst hQ
        exact W.vret hx hb hr (fun u9 ht hW => ⟨⟨(), rfl, trivial, by rw [← ht] at hP; exact hP⟩, hS.F ht⟩) hS.2.2 dX5_mirror_31
      · exact False.elim (c7 (nI_le (a := n) (b := k2) (by omega) (by omega)))
    | succ r2 ih2 =>
      intro k2 tr H locs ls hi2_0 hi2_1 hP hD hS hl hF
      rw [F_X5_mirror_2] at hF
      refine lv_iload_n hx hb dX5_mirror_2 rfl (lv_at hl 1 rfl) ?_
      refine lv_aload_n hx hb dX5_mirror_3 rfl (lv_at hl 0 rfl) ?_
      refine va_get (D := D) (ci := 3) (v := .int (nI n)) (C := RX5) (T := TX5) (N := 2) hx hb hts hinX5 hown hK.1 hP 0 rfl rfl 1 (by decide) hf13 (fun _ h9 => h9) rfl dX5_mirror_4 ?_
      refine lv_icmp_ge (tgt := 31) hx hb dX5_mirror_7 (by decide) (fun c7 => ?_) (fun c7 => ?_)
      · exact False.elim (nI_ge (a := k2) (b := n) (by omega) (by omega) c7)
      · skip
        refine lv_aload_n hx hb dX5_mirror_10 rfl (lv_at hl 0 rfl) ?_
        refine va_get (D := D) (ci := 3) (v := .ref t) (C := RX5) (T := TX5) (N := 2) hx hb hts hinX5 hown hK.1 hP 0 rfl rfl 0 (by decide) hf9 (fun _ h9 => h9) rfl dX5_mirror_11 ?_
        refine lv_iload_n hx hb dX5_mirror_14 rfl (lv_at hl 1 rfl) ?_
        refine lv_aload_n hx hb dX5_mirror_15 rfl (lv_at hl 0 rfl) ?_
        refine va_get (D := D) (ci := 3) (v := .ref t) (C := RX5) (T := TX5) (N := 2) hx hb hts hinX5 hown hK.1 hP 0 rfl rfl 0 (by decide) hf9 (fun _ h9 => h9) rfl dX5_mirror_16 ?_
        refine lv_iload_n hx hb dX5_mirror_19 rfl (lv_at hl 1 rfl) ?_
        refine w_ald hx hb hK hP 1 0 rfl rfl (k2) rfl (by omega) (by omega) dX5_mirror_20 ?_
        refine lv_ineg hx hb dX5_mirror_21 ?_
        refine lv_iconst (v := 3) hx hb dX5_mirror_22 (by decide) ?_
        refine lv_iand hx hb dX5_mirror_23 ?_
        refine w_ast hx hb hK hP hD hS 1 0 rfl rfl (k2) rfl (by omega) (by omega) dX5_mirror_24 (fun H locs hP hD hS => ?_)
        have hP : va_P D vwCl [(h, .inr (3, [.ref t, .int (nI n)])), (t, .inl (cI, 16, .inl (upd tr k2 ((-(tr k2)) &&& 3))))] H := hP
        have hD : va_D A [(h, .inr (3, [.ref t, .int (nI n)])), (t, .inl (cI, 16, .inl (upd tr k2 ((-(tr k2)) &&& 3))))] := hD
        refine lv_iinc (v := nI (k2 + 1)) (lv' := [(1, .int (nI (k2 + 1))), (0, .ref h)]) hx hb dX5_mirror_25 hl (k := 1) rfl (nI_1 _) (by decide) rfl (fun ls hl => ?_)
        refine lv_goto (tgt := 2) hx hb dX5_mirror_28 (by decide) ?_
        exact ih2 (k2 + 1) (upd tr k2 ((-(tr k2)) &&& 3)) H locs ls (by omega) (by omega) hP hD hS (lv_sub hl [1, 0] rfl) hF
  exact lp2 (n - 0) 0 tr s.heap _ ls rfl (by omega) hP hD hS (lv_sub hl [1, 0] rfl) hF
def F_X5_advance_2  : Nat → Nat → (Nat → Int32) → (Nat → Int32)
  | 0, k2, tr => tr
  | r2 + 1, k2, tr => F_X5_advance_2  r2 (k2 + 1) (upd tr k2 (((tr k2) + 1) &&& 3))
def fX5_advance (tr : Nat → Int32) (n : Nat) : (Nat → Int32) := F_X5_advance_2  (n - 0) 0 tr
abbrev rmX5_advance : Room := { frames := 0, cells := 0, slots := 0, locals := 0 }
set_option maxHeartbeats 4000000 in
set_option maxRecDepth 100000 in
theorem c_X5_advance (l : Launch) (D : va_G) (cI : ClassId) (sz : Nat) (h : Nat) (t : Nat) (tr : Nat → Int32) (n : Nat) (hn : n ≤ 16) : Met l yX5_advance wsX5_advance rmX5_advance (va_Pc [.ref h] (wrP D [(cI, .int)] [(h, .inr (3, [.ref t, .int (nI n)])), (t, .inl (cI, 16, .inl tr))] sz)) (va_Qv (fun (_ : Unit) => True) (fun _ u9 => va_P D vwCl [(h, .inr (3, [.ref t, .int (nI n)])), (t, .inl (cI, 16, .inl (fX5_advance tr n)))] u9.heap) (va_A [(h, .inr (3, [.ref t, .int (nI n)])), (t, .inl (cI, 16, .inl tr))] sz)) 0 0 (va_A [(h, .inr (3, [.ref t, .int (nI n)])), (t, .inl (cI, 16, .inl tr))] sz) := by
  generalize hF : fX5_advance tr n = T
  refine Met.ofW (cc := cX5_advance) (maxL := 2) (ret := none) (by decide) rfl ?_
  intro p e s m args below meth c s₁ B hml hv
  obtain ⟨rfl, hsz, hP, hK, hD0⟩ := hv
  have hx := B.exec
  have hb := B.bytes
  have hr := B.returns
  have hts := atoms_spec (ws := wsX5_advance) B.pre
  have hown : s.vm.findClass RX5 = some m.cls := findClass_of_methodNamed B.named
  have hlocks := B.notSynchronized
  have hinX5 : ∀ w ∈ u_ws RX5 TX5 2, w ∈ wsX5_advance := by decide +kernel
  have hf13 := hts (.fieldLink RX5 13 "PulseSigns$Sign" "length" "I") (by decide +kernel)
  have hf9 := hts (.fieldLink RX5 9 "PulseSigns$Sign" "turns" "[I") (by decide +kernel)
  subst hsz
  have hD := hD0.self (sz := s.heap.size)
  generalize hAe : va_A [(h, .inr (3, [.ref t, .int (nI n)])), (t, .inl (cI, 16, .inl tr))] s.heap.size = A at hD ⊢
  have hA : ∀ q : Nat, s.heap.size ≤ q → A q := fun q h => by rw [← hAe]; exact Or.inr h
  have hS : va_S A s.heap s.heap [] := va_S.rf
  have hP : va_P D vwCl [(h, .inr (3, [.ref t, .int (nI n)])), (t, .inl (cI, 16, .inl tr))] s.heap := hP
  have hl := lv_entry ([.ref h]) (n := 2) (Nat.le_of_ble_eq_true rfl)
  rw [lg_entry_eq]
  generalize (lg_sl ([.ref h]) ++ List.replicate (2 - (lg_sl ([.ref h])).length) Slot.unset).toArray = ls at hl ⊢
  refine w_Q (fun Q hQ => ?_)
  have hl : lv_has ls 2 [(0, .ref h)] := hl
  rw [fX5_advance] at hF
  refine lv_iconst (v := 0) hx hb dX5_advance_0 (by decide) ?_
  refine lv_istore_n (lv' := [(1, .int 0), (0, .ref h)]) hx hb dX5_advance_1 rfl hl (by decide) rfl (fun ls hl => ?_)
  have lp2 : ∀ (r2 k2 : Nat) (tr : Nat → Int32) (H : Heap) (locs : List Loc) (ls : Array Slot), r2 = n - k2 → k2 ≤ n + 1 → va_P D vwCl [(h, .inr (3, [.ref t, .int (nI n)])), (t, .inl (cI, 16, .inl tr))] H → va_D A [(h, .inr (3, [.ref t, .int (nI n)])), (t, .inl (cI, 16, .inl tr))] → va_S A s.heap H locs → lv_has ls 2 [(0, .ref h), (1, .int (nI k2))] → F_X5_advance_2  r2 k2 tr = T → W p l e (headSpec wsX5_advance rmX5_advance).room s m ([.ref h] : List Value).toArray below meth c H locs 0 0 Q (F0 m 2 ls []) := by
    intro r2
    induction r2 with
    | zero =>
      intro k2 tr H locs ls hi2_0 hi2_1 hP hD hS hl hF
      rw [F_X5_advance_2] at hF
      refine lv_iload_n hx hb dX5_advance_2 rfl (lv_at hl 1 rfl) ?_
      refine lv_aload_n hx hb dX5_advance_3 rfl (lv_at hl 0 rfl) ?_
      refine va_get (D := D) (ci := 3) (v := .int (nI n)) (C := RX5) (T := TX5) (N := 2) hx hb hts hinX5 hown hK.1 hP 0 rfl rfl 1 (by decide) hf13 (fun _ h9 => h9) rfl dX5_advance_4 ?_
      refine lv_icmp_ge (tgt := 32) hx hb dX5_advance_7 (by decide) (fun c7 => ?_) (fun c7 => ?_)
      · skip
        subst hF
        subst hQ
        exact W.vret hx hb hr (fun u9 ht hW => ⟨⟨(), rfl, trivial, by rw [← ht] at hP; exact hP⟩, hS.F ht⟩) hS.2.2 dX5_advance_32
      · exact False.elim (c7 (nI_le (a := n) (b := k2) (by omega) (by omega)))
    | succ r2 ih2 =>
      intro k2 tr H locs ls hi2_0 hi2_1 hP hD hS hl hF
      rw [F_X5_advance_2] at hF
      refine lv_iload_n hx hb dX5_advance_2 rfl (lv_at hl 1 rfl) ?_
      refine lv_aload_n hx hb dX5_advance_3 rfl (lv_at hl 0 rfl) ?_
      refine va_get (D := D) (ci := 3) (v := .int (nI n)) (C := RX5) (T := TX5) (N := 2) hx hb hts hinX5 hown hK.1 hP 0 rfl rfl 1 (by decide) hf13 (fun _ h9 => h9) rfl dX5_advance_4 ?_
      refine lv_icmp_ge (tgt := 32) hx hb dX5_advance_7 (by decide) (fun c7 => ?_) (fun c7 => ?_)
      · exact False.elim (nI_ge (a := k2) (b := n) (by omega) (by omega) c7)
      · skip
        refine lv_aload_n hx hb dX5_advance_10 rfl (lv_at hl 0 rfl) ?_
        refine va_get (D := D) (ci := 3) (v := .ref t) (C := RX5) (T := TX5) (N := 2) hx hb hts hinX5 hown hK.1 hP 0 rfl rfl 0 (by decide) hf9 (fun _ h9 => h9) rfl dX5_advance_11 ?_
        refine lv_iload_n hx hb dX5_advance_14 rfl (lv_at hl 1 rfl) ?_
        refine lv_aload_n hx hb dX5_advance_15 rfl (lv_at hl 0 rfl) ?_
        refine va_get (D := D) (ci := 3) (v := .ref t) (C := RX5) (T := TX5) (N := 2) hx hb hts hinX5 hown hK.1 hP 0 rfl rfl 0 (by decide) hf9 (fun _ h9 => h9) rfl dX5_advance_16 ?_
        refine lv_iload_n hx hb dX5_advance_19 rfl (lv_at hl 1 rfl) ?_
        refine w_ald hx hb hK hP 1 0 rfl rfl (k2) rfl (by omega) (by omega) dX5_advance_20 ?_
        refine lv_iconst (v := 1) hx hb dX5_advance_21 (by decide) ?_
        refine lv_iadd hx hb dX5_advance_22 ?_
        refine lv_iconst (v := 3) hx hb dX5_advance_23 (by decide) ?_
        refine lv_iand hx hb dX5_advance_24 ?_
        refine w_ast hx hb hK hP hD hS 1 0 rfl rfl (k2) rfl (by omega) (by omega) dX5_advance_25 (fun H locs hP hD hS => ?_)
        have hP : va_P D vwCl [(h, .inr (3, [.ref t, .int (nI n)])), (t, .inl (cI, 16, .inl (upd tr k2 (((tr k2) + 1) &&& 3))))] H := hP
        have hD : va_D A [(h, .inr (3, [.ref t, .int (nI n)])), (t, .inl (cI, 16, .inl (upd tr k2 (((tr k2) + 1) &&& 3))))] := hD
        refine lv_iinc (v := nI (k2 + 1)) (lv' := [(1, .int (nI (k2 + 1))), (0, .ref h)]) hx hb dX5_advance_26 hl (k := 1) rfl (nI_1 _) (by decide) rfl (fun ls hl => ?_)
        refine lv_goto (tgt := 2) hx hb dX5_advance_29 (by decide) ?_
        exact ih2 (k2 + 1) (upd tr k2 (((tr k2) + 1) &&& 3)) H locs ls (by omega) (by omega) hP hD hS (lv_sub hl [1, 0] rfl) hF
  exact lp2 (n - 0) 0 tr s.heap _ ls rfl (by omega) hP hD hS (lv_sub hl [1, 0] rfl) hF
def F_X5_takeBits_7 (b : Int32) (n2 : Nat) : Nat → Nat → (Nat → Int32) → (Nat × (Nat → Int32))
  | 0, k7, tr => (n2, tr)
  | r7 + 1, k7, tr => F_X5_takeBits_7 b n2 r7 (k7 + 1) (upd tr k7 (((b >>> ((((nI n2) - 1) - (nI k7)) &&& 31)) &&& 1) * 2))
def fX5_takeBits (tr : Nat → Int32) (b : Int32) (n2 : Nat) : Nat × (Nat → Int32) := F_X5_takeBits_7 b n2 (n2 - 0) 0 tr
abbrev rmX5_takeBits : Room := { frames := 0, cells := 0, slots := 0, locals := 0 }
set_option maxHeartbeats 4000000 in
set_option maxRecDepth 100000 in
theorem c_X5_takeBits (l : Launch) (D : va_G) (cI : ClassId) (sz : Nat) (h : Nat) (t : Nat) (tr : Nat → Int32) (n : Nat) (b : Int32) (n2 : Nat) (hn2 : n2 ≤ 16) : Met l yX5_takeBits wsX5_takeBits rmX5_takeBits (va_Pc [.ref h, .int b, .int (nI n2)] (wrP D [(cI, .int)] [(h, .inr (3, [.ref t, .int (nI n)])), (t, .inl (cI, 16, .inl tr))] sz)) (va_Qv (fun (_ : Unit) => True) (fun _ u9 => va_P D vwCl [(h, .inr (3, [.ref t, .int (nI ((fX5_takeBits tr b n2).1))])), (t, .inl (cI, 16, .inl ((fX5_takeBits tr b n2).2)))] u9.heap) (va_A [(h, .inr (3, [.ref t, .int (nI n)])), (t, .inl (cI, 16, .inl tr))] sz)) 0 0 (va_A [(h, .inr (3, [.ref t, .int (nI n)])), (t, .inl (cI, 16, .inl tr))] sz) := by
  generalize hF : fX5_takeBits tr b n2 = T
  refine Met.ofW (cc := cX5_takeBits) (maxL := 4) (ret := none) (by decide) rfl ?_
  intro p e s m args below meth c s₁ B hml hv
  obtain ⟨rfl, hsz, hP, hK, hD0⟩ := hv
  have hx := B.exec
  have hb := B.bytes
  have hr := B.returns
  have hts := atoms_spec (ws := wsX5_takeBits) B.pre
  have hown : s.vm.findClass RX5 = some m.cls := findClass_of_methodNamed B.named
  have hlocks := B.notSynchronized
  have hinX5 : ∀ w ∈ u_ws RX5 TX5 2, w ∈ wsX5_takeBits := by decide +kernel
  have hf13 := hts (.fieldLink RX5 13 "PulseSigns$Sign" "length" "I") (by decide +kernel)
  have hf9 := hts (.fieldLink RX5 9 "PulseSigns$Sign" "turns" "[I") (by decide +kernel)
  subst hsz
  have hD := hD0.self (sz := s.heap.size)
  generalize hAe : va_A [(h, .inr (3, [.ref t, .int (nI n)])), (t, .inl (cI, 16, .inl tr))] s.heap.size = A at hD ⊢
  have hA : ∀ q : Nat, s.heap.size ≤ q → A q := fun q h => by rw [← hAe]; exact Or.inr h
  have hS : va_S A s.heap s.heap [] := va_S.rf
  have hP : va_P D vwCl [(h, .inr (3, [.ref t, .int (nI n)])), (t, .inl (cI, 16, .inl tr))] s.heap := hP
  have hl := lv_entry ([.ref h, .int b, .int (nI n2)]) (n := 4) (Nat.le_of_ble_eq_true rfl)
  rw [lg_entry_eq]
  generalize (lg_sl ([.ref h, .int b, .int (nI n2)]) ++ List.replicate (4 - (lg_sl ([.ref h, .int b, .int (nI n2)])).length) Slot.unset).toArray = ls at hl ⊢
  refine w_Q (fun Q hQ => ?_)
  have hl : lv_has ls 4 [(0, .ref h), (1, .int b), (2, .int (nI n2))] := hl
  rw [fX5_takeBits] at hF
  refine lv_aload_n hx hb dX5_takeBits_0 rfl (lv_at hl 0 rfl) ?_
  refine lv_iload_n hx hb dX5_takeBits_1 rfl (lv_at hl 2 rfl) ?_
  refine va_put (D := D) (ci := 3) (v := .int (nI n2)) (ty := .int) (C := RX5) (T := TX5) (N := 2) hx hb hts hinX5 tyX5 tyX5_ok nmX5 hown hK.1 hP hD hS 0 rfl rfl 1 (by decide) hf13 (fun _ h9 => h9) rfl (by decide +kernel) rfl rfl (Nat.le_of_ble_eq_true rfl) dX5_takeBits_2 (fun H locs hP hD hS => ?_)
  have hP : va_P D vwCl [(h, .inr (3, [.ref t, .int (nI n2)])), (t, .inl (cI, 16, .inl tr))] H := hP
  have hD : va_D A [(h, .inr (3, [.ref t, .int (nI n2)])), (t, .inl (cI, 16, .inl tr))] := hD
  refine lv_iconst (v := 0) hx hb dX5_takeBits_5 (by decide) ?_
  refine lv_istore_n (lv' := [(3, .int 0), (0, .ref h), (1, .int b), (2, .int (nI n2))]) hx hb dX5_takeBits_6 rfl hl (by decide) rfl (fun ls hl => ?_)
  have lp7 : ∀ (r7 k7 : Nat) (tr : Nat → Int32) (H : Heap) (locs : List Loc) (ls : Array Slot), r7 = n2 - k7 → k7 ≤ n2 + 1 → va_P D vwCl [(h, .inr (3, [.ref t, .int (nI n2)])), (t, .inl (cI, 16, .inl tr))] H → va_D A [(h, .inr (3, [.ref t, .int (nI n2)])), (t, .inl (cI, 16, .inl tr))] → va_S A s.heap H locs → lv_has ls 4 [(0, .ref h), (1, .int b), (2, .int (nI n2)), (3, .int (nI k7))] → F_X5_takeBits_7 b n2 r7 k7 tr = T → W p l e (headSpec wsX5_takeBits rmX5_takeBits).room s m ([.ref h, .int b, .int (nI n2)] : List Value).toArray below meth c H locs 0 0 Q (F0 m 7 ls []) := by
    intro r7
    induction r7 with
    | zero =>
      intro k7 tr H locs ls hi7_0 hi7_1 hP hD hS hl hF
      rw [F_X5_takeBits_7] at hF
      refine lv_iload_n hx hb dX5_takeBits_7 rfl (lv_at hl 3 rfl) ?_
      refine lv_iload_n hx hb dX5_takeBits_8 rfl (lv_at hl 2 rfl) ?_
      refine lv_icmp_ge (tgt := 35) hx hb dX5_takeBits_9 (by decide) (fun c9 => ?_) (fun c9 => ?_)
      · skip
        subst hF
        subst hQ
        exact W.vret hx hb hr (fun u9 ht hW => ⟨⟨(), rfl, trivial, by rw [← ht] at hP; exact hP⟩, hS.F ht⟩) hS.2.2 dX5_takeBits_35
      · exact False.elim (c9 (nI_le (a := n2) (b := k7) (by omega) (by omega)))
    | succ r7 ih7 =>
      intro k7 tr H locs ls hi7_0 hi7_1 hP hD hS hl hF
      rw [F_X5_takeBits_7] at hF
      refine lv_iload_n hx hb dX5_takeBits_7 rfl (lv_at hl 3 rfl) ?_
      refine lv_iload_n hx hb dX5_takeBits_8 rfl (lv_at hl 2 rfl) ?_
      refine lv_icmp_ge (tgt := 35) hx hb dX5_takeBits_9 (by decide) (fun c9 => ?_) (fun c9 => ?_)
      · exact False.elim (nI_ge (a := k7) (b := n2) (by omega) (by omega) c9)
      · skip
        refine lv_aload_n hx hb dX5_takeBits_12 rfl (lv_at hl 0 rfl) ?_
        refine va_get (D := D) (ci := 3) (v := .ref t) (C := RX5) (T := TX5) (N := 2) hx hb hts hinX5 hown hK.1 hP 0 rfl rfl 0 (by decide) hf9 (fun _ h9 => h9) rfl dX5_takeBits_13 ?_
        refine lv_iload_n hx hb dX5_takeBits_16 rfl (lv_at hl 3 rfl) ?_
        refine lv_iload_n hx hb dX5_takeBits_17 rfl (lv_at hl 1 rfl) ?_
        refine lv_iload_n hx hb dX5_takeBits_18 rfl (lv_at hl 2 rfl) ?_
        refine lv_iconst (v := 1) hx hb dX5_takeBits_19 (by decide) ?_
        refine lv_isub hx hb dX5_takeBits_20 ?_
        refine lv_iload_n hx hb dX5_takeBits_21 rfl (lv_at hl 3 rfl) ?_
        refine lv_isub hx hb dX5_takeBits_22 ?_
        refine lv_ishr hx hb dX5_takeBits_23 ?_
        refine lv_iconst (v := 1) hx hb dX5_takeBits_24 (by decide) ?_
        refine lv_iand hx hb dX5_takeBits_25 ?_
        refine lv_iconst (v := 2) hx hb dX5_takeBits_26 (by decide) ?_
        refine lv_imul hx hb dX5_takeBits_27 ?_
        refine w_ast hx hb hK hP hD hS 1 0 rfl rfl (k7) rfl (by omega) (by omega) dX5_takeBits_28 (fun H locs hP hD hS => ?_)
        have hP : va_P D vwCl [(h, .inr (3, [.ref t, .int (nI n2)])), (t, .inl (cI, 16, .inl (upd tr k7 (((b >>> ((((nI n2) - 1) - (nI k7)) &&& 31)) &&& 1) * 2))))] H := hP
        have hD : va_D A [(h, .inr (3, [.ref t, .int (nI n2)])), (t, .inl (cI, 16, .inl (upd tr k7 (((b >>> ((((nI n2) - 1) - (nI k7)) &&& 31)) &&& 1) * 2))))] := hD
        refine lv_iinc (v := nI (k7 + 1)) (lv' := [(3, .int (nI (k7 + 1))), (0, .ref h), (1, .int b), (2, .int (nI n2))]) hx hb dX5_takeBits_29 hl (k := 3) rfl (nI_1 _) (by decide) rfl (fun ls hl => ?_)
        refine lv_goto (tgt := 7) hx hb dX5_takeBits_32 (by decide) ?_
        exact ih7 (k7 + 1) (upd tr k7 (((b >>> ((((nI n2) - 1) - (nI k7)) &&& 31)) &&& 1) * 2)) H locs ls (by omega) (by omega) hP hD hS (lv_sub hl [1, 2, 3, 0] rfl) hF
  exact lp7 (n2 - 0) 0 tr H _ ls rfl (by omega) hP hD hS (lv_sub hl [1, 2, 3, 0] rfl) hF
def F_X5_lookPart_6 (tr : Nat → Int32) (tr2 : Nat → Int32) (n2 : Nat) (lt : Int32) (sp : Int32) (pt : Int32) : Nat → Nat → Int32 → Int32
  | 0, k6, x5 => x5
  | r6 + 1, k6, x5 => (if (fX5_has n2 ((nI k6) + lt)) = 0 then F_X5_lookPart_6 tr tr2 n2 lt sp pt r6 (k6 + 1) x5 else F_X5_lookPart_6 tr tr2 n2 lt sp pt r6 (k6 + 1) (x5 + (fX6_partOfTurn (((tr k6) - (tr2 ((nI k6) + lt).toNatClampNeg)) + (sp * (nI k6))) pt)))
def fX5_lookPart (tr : Nat → Int32) (n : Nat) (tr2 : Nat → Int32) (n2 : Nat) (lt : Int32) (sp : Int32) (pt : Int32) : Int32 := F_X5_lookPart_6 tr tr2 n2 lt sp pt (n - 0) 0 0
abbrev rmX5_lookPart : Room := { frames := 2, cells := 0, slots := 0, locals := 43 }
set_option maxHeartbeats 4000000 in
set_option maxRecDepth 100000 in
theorem c_X5_lookPart (l : Launch) (D : va_G) (cI : ClassId) (h : Nat) (t : Nat) (tr : Nat → Int32) (n : Nat) (h2 : Nat) (t2 : Nat) (tr2 : Nat → Int32) (n2 : Nat) (lt : Int32) (sp : Int32) (pt : Int32) (hn : n ≤ 16) (hn2 : n2 ≤ 16) : Met l yX5_lookPart wsX5_lookPart rmX5_lookPart (va_Pc [.ref h, .ref h2, .int lt, .int sp, .int pt] (roP D [(cI, .int)] [(h, .inr (3, [.ref t, .int (nI n)])), (t, .inl (cI, 16, .inl tr)), (h2, .inr (3, [.ref t2, .int (nI n2)])), (t2, .inl (cI, 16, .inl tr2))])) (vp_Si (fun r9 => r9 = fX5_lookPart tr n tr2 n2 lt sp pt)) 0 0 (fun _ => False) := by
  generalize hF : fX5_lookPart tr n tr2 n2 lt sp pt = T
  refine Met.ofW (cc := cX5_lookPart) (maxL := 7) (ret := (some .int)) (by decide) rfl ?_
  intro p e s m args below meth c s₁ B hml hv
  obtain ⟨rfl, hP, hK⟩ := hv
  have hx := B.exec
  have hb := B.bytes
  have hr := B.returns
  have hts := atoms_spec (ws := wsX5_lookPart) B.pre
  have hown : s.vm.findClass RX5 = some m.cls := findClass_of_methodNamed B.named
  have hlocks := B.notSynchronized
  have hinX5 : ∀ w ∈ u_ws RX5 TX5 2, w ∈ wsX5_lookPart := by decide +kernel
  have hf13 := hts (.fieldLink RX5 13 "PulseSigns$Sign" "length" "I") (by decide +kernel)
  have hf9 := hts (.fieldLink RX5 9 "PulseSigns$Sign" "turns" "[I") (by decide +kernel)
  have hiniX6 := hts (.initialized RX6) (by decide +kernel)
  have hst_X6_partOfTurn := hts (.static yX6_partOfTurn) (by decide +kernel)
  have hl := lv_entry ([.ref h, .ref h2, .int lt, .int sp, .int pt]) (n := 7) (Nat.le_of_ble_eq_true rfl)
  rw [lg_entry_eq]
  generalize (lg_sl ([.ref h, .ref h2, .int lt, .int sp, .int pt]) ++ List.replicate (7 - (lg_sl ([.ref h, .ref h2, .int lt, .int sp, .int pt])).length) Slot.unset).toArray = ls at hl ⊢
  refine w_Q (fun Q hQ => ?_)
  have hl : lv_has ls 7 [(0, .ref h), (1, .ref h2), (2, .int lt), (3, .int sp), (4, .int pt)] := hl
  rw [fX5_lookPart] at hF
  refine lv_iconst (v := 0) hx hb dX5_lookPart_0 (by decide) ?_
  refine lv_istore (lv' := [(5, .int 0), (0, .ref h), (1, .ref h2), (2, .int lt), (3, .int sp), (4, .int pt)]) hx hb dX5_lookPart_1 hl (by decide) rfl (fun ls hl => ?_)
  refine lv_iconst (v := 0) hx hb dX5_lookPart_3 (by decide) ?_
  refine lv_istore (lv' := [(6, .int 0), (5, .int 0), (0, .ref h), (1, .ref h2), (2, .int lt), (3, .int sp), (4, .int pt)]) hx hb dX5_lookPart_4 hl (by decide) rfl (fun ls hl => ?_)
  have lp6 : ∀ (r6 k6 : Nat) (x5 : Int32) (ls : Array Slot), r6 = n - k6 → k6 ≤ n + 1 → lv_has ls 7 [(0, .ref h), (1, .ref h2), (2, .int lt), (3, .int sp), (4, .int pt), (5, .int x5), (6, .int (nI k6))] → F_X5_lookPart_6 tr tr2 n2 lt sp pt r6 k6 x5 = T → W p l e (headSpec wsX5_lookPart rmX5_lookPart).room s m ([.ref h, .ref h2, .int lt, .int sp, .int pt] : List Value).toArray below meth c s.heap [] 0 0 Q (F0 m 6 ls []) := by
    intro r6
    induction r6 with
    | zero =>
      intro k6 x5 ls hi6_0 hi6_1 hl hF
      rw [F_X5_lookPart_6] at hF
      refine lv_iload hx hb dX5_lookPart_6 (lv_at hl 6 rfl) ?_
      refine lv_aload_n hx hb dX5_lookPart_8 rfl (lv_at hl 0 rfl) ?_
      refine va_get (D := D) (ci := 3) (v := .int (nI n)) (C := RX5) (T := TX5) (N := 2) hx hb hts hinX5 hown hK.1 hP 0 rfl rfl 1 (by decide) hf13 (fun _ h9 => h9) rfl dX5_lookPart_9 ?_
      refine lv_icmp_ge (tgt := 64) hx hb dX5_lookPart_12 (by decide) (fun c12 => ?_) (fun c12 => ?_)
      · skip
        refine lv_iload hx hb dX5_lookPart_64 (lv_at hl 5 rfl) ?_
        subst hQ
        exact W.iret (v := x5) hx hb hr (fun u9 ht hW => ⟨_, rfl, hF, ht⟩) (fun q hq => by cases hq) dX5_lookPart_66
      · exact False.elim (c12 (nI_le (a := n) (b := k6) (by omega) (by omega)))
    | succ r6 ih6 =>
      intro k6 x5 ls hi6_0 hi6_1 hl hF
      rw [F_X5_lookPart_6] at hF
      refine lv_iload hx hb dX5_lookPart_6 (lv_at hl 6 rfl) ?_
      refine lv_aload_n hx hb dX5_lookPart_8 rfl (lv_at hl 0 rfl) ?_
      refine va_get (D := D) (ci := 3) (v := .int (nI n)) (C := RX5) (T := TX5) (N := 2) hx hb hts hinX5 hown hK.1 hP 0 rfl rfl 1 (by decide) hf13 (fun _ h9 => h9) rfl dX5_lookPart_9 ?_
      refine lv_icmp_ge (tgt := 64) hx hb dX5_lookPart_12 (by decide) (fun c12 => ?_) (fun c12 => ?_)
      · exact False.elim (nI_ge (a := k6) (b := n) (by omega) (by omega) c12)
      · skip
        refine lv_aload_n hx hb dX5_lookPart_15 rfl (lv_at hl 1 rfl) ?_
        refine lv_iload hx hb dX5_lookPart_16 (lv_at hl 6 rfl) ?_
        refine lv_iload_n hx hb dX5_lookPart_18 rfl (lv_at hl 2 rfl) ?_
        refine lv_iadd hx hb dX5_lookPart_19 ?_
        have hPc := hP.sub (ws' := [(h2, .inr (3, [.ref t2, .int (nI n2)])), (t2, .inl (cI, 16, .inl tr2))]) [2, 3] rfl
        refine cs_i (va_runV (As := [.int ((nI k6) + lt)]) (rest := []) ⟨hx, hb, hml, hown, hts⟩ (c_X5_has l D cI h2 t2 tr2 n2 ((nI k6) + lt) ) (cwV 1 hts gX5_lookPart_X5_has rfl rfl rfl (by decide +kernel) ⟨(Nat.le_of_ble_eq_true rfl), (Nat.le_of_ble_eq_true rfl)⟩) (ro_preV hPc hK rfl (q0 := 0) rfl) rfl rfl hl.1 rfl (lv_room (Nat.le_of_ble_eq_true rfl)) dX5_lookPart_20 ⟨Nat.zero_le _, Nat.zero_le _⟩) ?_
        refine lv_if_eq (tgt := 58) hx hb dX5_lookPart_23 (by decide) (fun c23 => ?_) (fun c23 => ?_)
        · rw [if_pos c23] at hF
          refine lv_iinc (v := nI (k6 + 1)) (lv' := [(6, .int (nI (k6 + 1))), (0, .ref h), (1, .ref h2), (2, .int lt), (3, .int sp), (4, .int pt), (5, .int x5)]) hx hb dX5_lookPart_58 hl (k := 6) rfl (nI_1 _) (by decide) rfl (fun ls hl => ?_)
          refine lv_goto (tgt := 6) hx hb dX5_lookPart_61 (by decide) ?_
          exact ih6 (k6 + 1) x5 ls (by omega) (by omega)  (lv_sub hl [1, 2, 3, 4, 5, 6, 0] rfl) hF
        · rw [if_neg c23] at hF
          refine lv_iload hx hb dX5_lookPart_26 (lv_at hl 5 rfl) ?_
          refine lv_aload_n hx hb dX5_lookPart_28 rfl (lv_at hl 0 rfl) ?_
          refine va_get (D := D) (ci := 3) (v := .ref t) (C := RX5) (T := TX5) (N := 2) hx hb hts hinX5 hown hK.1 hP 0 rfl rfl 0 (by decide) hf9 (fun _ h9 => h9) rfl dX5_lookPart_29 ?_
          refine lv_iload hx hb dX5_lookPart_32 (lv_at hl 6 rfl) ?_
          refine w_ald hx hb hK hP 1 0 rfl rfl (k6) rfl (by omega) (by omega) dX5_lookPart_34 ?_
          refine lv_aload_n hx hb dX5_lookPart_35 rfl (lv_at hl 1 rfl) ?_
          refine va_get (D := D) (ci := 3) (v := .ref t2) (C := RX5) (T := TX5) (N := 2) hx hb hts hinX5 hown hK.1 hP 2 rfl rfl 0 (by decide) hf9 (fun _ h9 => h9) rfl dX5_lookPart_36 ?_
          refine lv_iload hx hb dX5_lookPart_39 (lv_at hl 6 rfl) ?_
          refine lv_iload_n hx hb dX5_lookPart_41 rfl (lv_at hl 2 rfl) ?_
          refine lv_iadd hx hb dX5_lookPart_42 ?_
          refine va_iald hx hb hK.1 hP 3 0 rfl rfl (has_in c23 hn2) dX5_lookPart_43 ?_
          refine lv_isub hx hb dX5_lookPart_44 ?_
          refine lv_iload_n hx hb dX5_lookPart_45 rfl (lv_at hl 3 rfl) ?_
          refine lv_iload hx hb dX5_lookPart_46 (lv_at hl 6 rfl) ?_
          refine lv_imul hx hb dX5_lookPart_48 ?_
          refine lv_iadd hx hb dX5_lookPart_49 ?_
          refine lv_iload hx hb dX5_lookPart_50 (lv_at hl 4 rfl) ?_
          have hPc := hP.sub (ws' := []) [] rfl
          refine cs_i (va_runSN (As := [.int (((tr k6) - (tr2 ((nI k6) + lt).toNatClampNeg)) + (sp * (nI k6))), .int pt]) (rest := [.int x5]) ⟨hx, hb, hml, hown, hts⟩ (c_X6_partOfTurn l D cI (((tr k6) - (tr2 ((nI k6) + lt).toNatClampNeg)) + (sp * (nI k6))) pt ) ⟨va_cnB 2 hts gX5_lookPart_X6_partOfTurn_n27 rfl rfl rfl hK.2.2.2.2.1 hiniX6 (by decide +kernel) ⟨(Nat.le_of_ble_eq_true rfl), (Nat.le_of_ble_eq_true rfl)⟩, hst_X6_partOfTurn, trivial⟩ (ro_pre hPc hK) rfl rfl hl.1 rfl (lv_room (Nat.le_of_ble_eq_true rfl)) dX5_lookPart_52 ⟨Nat.zero_le _, Nat.zero_le _⟩) ?_
          refine lv_iadd hx hb dX5_lookPart_55 ?_
          refine lv_istore (lv' := [(5, .int (x5 + (fX6_partOfTurn (((tr k6) - (tr2 ((nI k6) + lt).toNatClampNeg)) + (sp * (nI k6))) pt))), (0, .ref h), (1, .ref h2), (2, .int lt), (3, .int sp), (4, .int pt), (6, .int (nI k6))]) hx hb dX5_lookPart_56 hl (by decide) rfl (fun ls hl => ?_)
          refine lv_iinc (v := nI (k6 + 1)) (lv' := [(6, .int (nI (k6 + 1))), (5, .int (x5 + (fX6_partOfTurn (((tr k6) - (tr2 ((nI k6) + lt).toNatClampNeg)) + (sp * (nI k6))) pt))), (0, .ref h), (1, .ref h2), (2, .int lt), (3, .int sp), (4, .int pt)]) hx hb dX5_lookPart_58 hl (k := 6) rfl (nI_1 _) (by decide) rfl (fun ls hl => ?_)
          refine lv_goto (tgt := 6) hx hb dX5_lookPart_61 (by decide) ?_
          exact ih6 (k6 + 1) (x5 + (fX6_partOfTurn (((tr k6) - (tr2 ((nI k6) + lt).toNatClampNeg)) + (sp * (nI k6))) pt)) ls (by omega) (by omega)  (lv_sub hl [2, 3, 4, 5, 6, 1, 0] rfl) hF
  exact lp6 (n - 0) 0 0 ls rfl (by omega)  (lv_sub hl [2, 3, 4, 5, 6, 1, 0] rfl) hF
def fX5_ownLookSize (tr : Nat → Int32) (n : Nat) (lt : Int32) (sp : Int32) : Int32 := ((fX5_lookPart tr n tr n lt sp 0) * (fX5_lookPart tr n tr n lt sp 0)) + ((fX5_lookPart tr n tr n lt sp 1) * (fX5_lookPart tr n tr n lt sp 1))
abbrev rmX5_ownLookSize : Room := { frames := 3, cells := 0, slots := 0, locals := 69 }
set_option maxHeartbeats 4000000 in
set_option maxRecDepth 100000 in
theorem c_X5_ownLookSize (l : Launch) (D : va_G) (cI : ClassId) (h : Nat) (t : Nat) (tr : Nat → Int32) (n : Nat) (lt : Int32) (sp : Int32) (hn : n ≤ 16) : Met l yX5_ownLookSize wsX5_ownLookSize rmX5_ownLookSize (va_Pc [.ref h, .int lt, .int sp] (roP D [(cI, .int)] [(h, .inr (3, [.ref t, .int (nI n)])), (t, .inl (cI, 16, .inl tr))])) (vp_Si (fun r9 => r9 = fX5_ownLookSize tr n lt sp)) 0 0 (fun _ => False) := by
  generalize hF : fX5_ownLookSize tr n lt sp = T
  refine Met.ofW (cc := cX5_ownLookSize) (maxL := 5) (ret := (some .int)) (by decide) rfl ?_
  intro p e s m args below meth c s₁ B hml hv
  obtain ⟨rfl, hP, hK⟩ := hv
  have hx := B.exec
  have hb := B.bytes
  have hr := B.returns
  have hts := atoms_spec (ws := wsX5_ownLookSize) B.pre
  have hown : s.vm.findClass RX5 = some m.cls := findClass_of_methodNamed B.named
  have hlocks := B.notSynchronized
  have hl := lv_entry ([.ref h, .int lt, .int sp]) (n := 5) (Nat.le_of_ble_eq_true rfl)
  rw [lg_entry_eq]
  generalize (lg_sl ([.ref h, .int lt, .int sp]) ++ List.replicate (5 - (lg_sl ([.ref h, .int lt, .int sp])).length) Slot.unset).toArray = ls at hl ⊢
  refine w_Q (fun Q hQ => ?_)
  have hl : lv_has ls 5 [(0, .ref h), (1, .int lt), (2, .int sp)] := hl
  rw [fX5_ownLookSize] at hF
  refine lv_aload_n hx hb dX5_ownLookSize_0 rfl (lv_at hl 0 rfl) ?_
  refine lv_aload_n hx hb dX5_ownLookSize_1 rfl (lv_at hl 0 rfl) ?_
  refine lv_iload_n hx hb dX5_ownLookSize_2 rfl (lv_at hl 1 rfl) ?_
  refine lv_iload_n hx hb dX5_ownLookSize_3 rfl (lv_at hl 2 rfl) ?_
  refine lv_iconst (v := 0) hx hb dX5_ownLookSize_4 (by decide) ?_
  have hPc := hP.sub (ws' := [(h, .inr (3, [.ref t, .int (nI n)])), (t, .inl (cI, 16, .inl tr)), (h, .inr (3, [.ref t, .int (nI n)])), (t, .inl (cI, 16, .inl tr))]) [0, 1, 0, 1] rfl
  refine cs_i (va_runV (As := [.ref h, .int lt, .int sp, .int 0]) (rest := []) ⟨hx, hb, hml, hown, hts⟩ (c_X5_lookPart l D cI h t tr n h t tr n lt sp 0 (by first | assumption | omega) (by first | assumption | omega)) (cwV 4 hts gX5_ownLookSize_X5_lookPart rfl rfl rfl (by decide +kernel) ⟨(Nat.le_of_ble_eq_true rfl), (Nat.le_of_ble_eq_true rfl)⟩) (ro_preV hPc hK rfl (q0 := 0) rfl) rfl rfl hl.1 rfl (lv_room (Nat.le_of_ble_eq_true rfl)) dX5_ownLookSize_5 ⟨Nat.zero_le _, Nat.zero_le _⟩) ?_
  refine lv_istore_n (lv' := [(3, .int (fX5_lookPart tr n tr n lt sp 0)), (0, .ref h), (1, .int lt), (2, .int sp)]) hx hb dX5_ownLookSize_8 rfl hl (by decide) rfl (fun ls hl => ?_)
  refine lv_aload_n hx hb dX5_ownLookSize_9 rfl (lv_at hl 1 rfl) ?_
  refine lv_aload_n hx hb dX5_ownLookSize_10 rfl (lv_at hl 1 rfl) ?_
  refine lv_iload_n hx hb dX5_ownLookSize_11 rfl (lv_at hl 2 rfl) ?_
  refine lv_iload_n hx hb dX5_ownLookSize_12 rfl (lv_at hl 3 rfl) ?_
  refine lv_iconst (v := 1) hx hb dX5_ownLookSize_13 (by decide) ?_
  have hPc := hP.sub (ws' := [(h, .inr (3, [.ref t, .int (nI n)])), (t, .inl (cI, 16, .inl tr)), (h, .inr (3, [.ref t, .int (nI n)])), (t, .inl (cI, 16, .inl tr))]) [0, 1, 0, 1] rfl
  refine cs_i (va_runV (As := [.ref h, .int lt, .int sp, .int 1]) (rest := []) ⟨hx, hb, hml, hown, hts⟩ (c_X5_lookPart l D cI h t tr n h t tr n lt sp 1 (by first | assumption | omega) (by first | assumption | omega)) (cwV 4 hts gX5_ownLookSize_X5_lookPart rfl rfl rfl (by decide +kernel) ⟨(Nat.le_of_ble_eq_true rfl), (Nat.le_of_ble_eq_true rfl)⟩) (ro_preV hPc hK rfl (q0 := 0) rfl) rfl rfl hl.1 rfl (lv_room (Nat.le_of_ble_eq_true rfl)) dX5_ownLookSize_14 ⟨Nat.zero_le _, Nat.zero_le _⟩) ?_
  refine lv_istore (lv' := [(4, .int (fX5_lookPart tr n tr n lt sp 1)), (3, .int (fX5_lookPart tr n tr n lt sp 0)), (0, .ref h), (1, .int lt), (2, .int sp)]) hx hb dX5_ownLookSize_17 hl (by decide) rfl (fun ls hl => ?_)
  refine lv_iload_n hx hb dX5_ownLookSize_19 rfl (lv_at hl 1 rfl) ?_
  refine lv_iload_n hx hb dX5_ownLookSize_20 rfl (lv_at hl 1 rfl) ?_
  refine lv_imul hx hb dX5_ownLookSize_21 ?_
  refine lv_iload hx hb dX5_ownLookSize_22 (lv_at hl 0 rfl) ?_
  refine lv_iload hx hb dX5_ownLookSize_24 (lv_at hl 0 rfl) ?_
  refine lv_imul hx hb dX5_ownLookSize_26 ?_
  refine lv_iadd hx hb dX5_ownLookSize_27 ?_
  subst hQ
  exact W.iret (v := ((fX5_lookPart tr n tr n lt sp 0) * (fX5_lookPart tr n tr n lt sp 0)) + ((fX5_lookPart tr n tr n lt sp 1) * (fX5_lookPart tr n tr n lt sp 1))) hx hb hr (fun u9 ht hW => ⟨_, rfl, hF, ht⟩) (fun q hq => by cases hq) dX5_ownLookSize_28
def F_X5_greatestSide_4 (tr : Nat → Int32) (n : Nat) : Nat → Nat → Int32 → Int32
  | 0, k4, x1 => x1
  | r4 + 1, k4, x1 => F_X5_greatestSide_4 tr n r4 (k4 + 1) (if x1 < (fX5_ownLookSize tr n (nI k4) 0) then fX5_ownLookSize tr n (nI k4) 0 else x1)
def fX5_greatestSide (tr : Nat → Int32) (n : Nat) : Int32 := F_X5_greatestSide_4 tr n (n - 1) 1 0
abbrev rmX5_greatestSide : Room := { frames := 4, cells := 0, slots := 0, locals := 93 }
set_option maxHeartbeats 4000000 in
set_option maxRecDepth 100000 in
theorem c_X5_greatestSide (l : Launch) (D : va_G) (cI : ClassId) (h : Nat) (t : Nat) (tr : Nat → Int32) (n : Nat) (hn : n ≤ 16) : Met l yX5_greatestSide wsX5_greatestSide rmX5_greatestSide (va_Pc [.ref h] (roP D [(cI, .int)] [(h, .inr (3, [.ref t, .int (nI n)])), (t, .inl (cI, 16, .inl tr))])) (vp_Si (fun r9 => r9 = fX5_greatestSide tr n)) 0 0 (fun _ => False) := by
  generalize hF : fX5_greatestSide tr n = T
  refine Met.ofW (cc := cX5_greatestSide) (maxL := 3) (ret := (some .int)) (by decide) rfl ?_
  intro p e s m args below meth c s₁ B hml hv
  obtain ⟨rfl, hP, hK⟩ := hv
  have hx := B.exec
  have hb := B.bytes
  have hr := B.returns
  have hts := atoms_spec (ws := wsX5_greatestSide) B.pre
  have hown : s.vm.findClass RX5 = some m.cls := findClass_of_methodNamed B.named
  have hlocks := B.notSynchronized
  have hinX5 : ∀ w ∈ u_ws RX5 TX5 2, w ∈ wsX5_greatestSide := by decide +kernel
  have hf13 := hts (.fieldLink RX5 13 "PulseSigns$Sign" "length" "I") (by decide +kernel)
  have hml38 := hts (.methodLink RX5 38 Lib.Math.max.name) (by decide +kernel)
  have hst38 := hts (.static Lib.Math.max.name) (by decide +kernel)
  have hiM := hts (.initialized "java/lang/Math") (by decide +kernel)
  have hcd38 := hts (.code Lib.Math.max.name Lib.Math.max.code 2 (some .int)) (by decide +kernel)
  have hl := lv_entry ([.ref h]) (n := 3) (Nat.le_of_ble_eq_true rfl)
  rw [lg_entry_eq]
  generalize (lg_sl ([.ref h]) ++ List.replicate (3 - (lg_sl ([.ref h])).length) Slot.unset).toArray = ls at hl ⊢
  refine w_Q (fun Q hQ => ?_)
  have hl : lv_has ls 3 [(0, .ref h)] := hl
  rw [fX5_greatestSide] at hF
  refine lv_iconst (v := 0) hx hb dX5_greatestSide_0 (by decide) ?_
  refine lv_istore_n (lv' := [(1, .int 0), (0, .ref h)]) hx hb dX5_greatestSide_1 rfl hl (by decide) rfl (fun ls hl => ?_)
  refine lv_iconst (v := 1) hx hb dX5_greatestSide_2 (by decide) ?_
  refine lv_istore_n (lv' := [(2, .int 1), (1, .int 0), (0, .ref h)]) hx hb dX5_greatestSide_3 rfl hl (by decide) rfl (fun ls hl => ?_)
  have lp4 : ∀ (r4 k4 : Nat) (x1 : Int32) (ls : Array Slot), r4 = n - k4 → k4 ≤ n + 1 → lv_has ls 3 [(0, .ref h), (1, .int x1), (2, .int (nI k4))] → F_X5_greatestSide_4 tr n r4 k4 x1 = T → W p l e (headSpec wsX5_greatestSide rmX5_greatestSide).room s m ([.ref h] : List Value).toArray below meth c s.heap [] 0 0 Q (F0 m 4 ls []) := by
    intro r4
    induction r4 with
    | zero =>
      intro k4 x1 ls hi4_0 hi4_1 hl hF
      rw [F_X5_greatestSide_4] at hF
      refine lv_iload_n hx hb dX5_greatestSide_4 rfl (lv_at hl 2 rfl) ?_
      refine lv_aload_n hx hb dX5_greatestSide_5 rfl (lv_at hl 0 rfl) ?_
      refine va_get (D := D) (ci := 3) (v := .int (nI n)) (C := RX5) (T := TX5) (N := 2) hx hb hts hinX5 hown hK.1 hP 0 rfl rfl 1 (by decide) hf13 (fun _ h9 => h9) rfl dX5_greatestSide_6 ?_
      refine lv_icmp_ge (tgt := 29) hx hb dX5_greatestSide_9 (by decide) (fun c9 => ?_) (fun c9 => ?_)
      · skip
        refine lv_iload_n hx hb dX5_greatestSide_29 rfl (lv_at hl 1 rfl) ?_
        subst hQ
        exact W.iret (v := x1) hx hb hr (fun u9 ht hW => ⟨_, rfl, hF, ht⟩) (fun q hq => by cases hq) dX5_greatestSide_30
      · exact False.elim (c9 (nI_le (a := n) (b := k4) (by omega) (by omega)))
    | succ r4 ih4 =>
      intro k4 x1 ls hi4_0 hi4_1 hl hF
      rw [F_X5_greatestSide_4] at hF
      refine lv_iload_n hx hb dX5_greatestSide_4 rfl (lv_at hl 2 rfl) ?_
      refine lv_aload_n hx hb dX5_greatestSide_5 rfl (lv_at hl 0 rfl) ?_
      refine va_get (D := D) (ci := 3) (v := .int (nI n)) (C := RX5) (T := TX5) (N := 2) hx hb hts hinX5 hown hK.1 hP 0 rfl rfl 1 (by decide) hf13 (fun _ h9 => h9) rfl dX5_greatestSide_6 ?_
      refine lv_icmp_ge (tgt := 29) hx hb dX5_greatestSide_9 (by decide) (fun c9 => ?_) (fun c9 => ?_)
      · exact False.elim (nI_ge (a := k4) (b := n) (by omega) (by omega) c9)
      · skip
        refine lv_iload_n hx hb dX5_greatestSide_12 rfl (lv_at hl 1 rfl) ?_
        refine lv_aload_n hx hb dX5_greatestSide_13 rfl (lv_at hl 0 rfl) ?_
        refine lv_iload_n hx hb dX5_greatestSide_14 rfl (lv_at hl 2 rfl) ?_
        refine lv_iconst (v := 0) hx hb dX5_greatestSide_15 (by decide) ?_
        refine cs_i (va_runV (As := [.int (nI k4), .int 0]) (rest := [.int x1]) ⟨hx, hb, hml, hown, hts⟩ (c_X5_ownLookSize l D cI h t tr n (nI k4) 0 (by first | assumption | omega)) (cwV 2 hts gX5_greatestSide_X5_ownLookSize rfl rfl rfl (by decide +kernel) ⟨(Nat.le_of_ble_eq_true rfl), (Nat.le_of_ble_eq_true rfl)⟩) (ro_preV hP hK rfl (q0 := 0) rfl) rfl rfl hl.1 rfl (lv_room (Nat.le_of_ble_eq_true rfl)) dX5_greatestSide_16 ⟨Nat.zero_le _, Nat.zero_le _⟩) ?_
        refine va_mmax hx hb (by rw [hml]; exact hl.1.symm) hown hml38 hst38 hiM hcd38 (Nat.le_of_ble_eq_true rfl) (Nat.le_of_ble_eq_true rfl) (Nat.zero_le _) (Nat.zero_le _) dX5_greatestSide_19 ?_
        refine lv_istore_n (lv' := [(1, .int (if x1 < (fX5_ownLookSize tr n (nI k4) 0) then fX5_ownLookSize tr n (nI k4) 0 else x1)), (0, .ref h), (2, .int (nI k4))]) hx hb dX5_greatestSide_22 rfl hl (by decide) rfl (fun ls hl => ?_)
        refine lv_iinc (v := nI (k4 + 1)) (lv' := [(2, .int (nI (k4 + 1))), (1, .int (if x1 < (fX5_ownLookSize tr n (nI k4) 0) then fX5_ownLookSize tr n (nI k4) 0 else x1)), (0, .ref h)]) hx hb dX5_greatestSide_23 hl (k := 2) rfl (nI_1 _) (by decide) rfl (fun ls hl => ?_)
        refine lv_goto (tgt := 4) hx hb dX5_greatestSide_26 (by decide) ?_
        exact ih4 (k4 + 1) (if x1 < (fX5_ownLookSize tr n (nI k4) 0) then fX5_ownLookSize tr n (nI k4) 0 else x1) ls (by omega) (by omega)  (lv_sub hl [2, 1, 0] rfl) hF
  exact lp4 (n - 1) 1 0 ls rfl (by omega)  (lv_sub hl [2, 1, 0] rfl) hF
def F_X5_sumOfSides_4 (tr : Nat → Int32) (n : Nat) : Nat → Nat → Int32 → Int32
  | 0, k4, x1 => x1
  | r4 + 1, k4, x1 => F_X5_sumOfSides_4 tr n r4 (k4 + 1) (x1 + (fX5_ownLookSize tr n (nI k4) 0))
def fX5_sumOfSides (tr : Nat → Int32) (n : Nat) : Int32 := F_X5_sumOfSides_4 tr n (n - 1) 1 0
abbrev rmX5_sumOfSides : Room := { frames := 4, cells := 0, slots := 0, locals := 93 }
set_option maxHeartbeats 4000000 in
set_option maxRecDepth 100000 in
theorem c_X5_sumOfSides (l : Launch) (D : va_G) (cI : ClassId) (h : Nat) (t : Nat) (tr : Nat → Int32) (n : Nat) (hn : n ≤ 16) : Met l yX5_sumOfSides wsX5_sumOfSides rmX5_sumOfSides (va_Pc [.ref h] (roP D [(cI, .int)] [(h, .inr (3, [.ref t, .int (nI n)])), (t, .inl (cI, 16, .inl tr))])) (vp_Si (fun r9 => r9 = fX5_sumOfSides tr n)) 0 0 (fun _ => False) := by
  generalize hF : fX5_sumOfSides tr n = T
  refine Met.ofW (cc := cX5_sumOfSides) (maxL := 3) (ret := (some .int)) (by decide) rfl ?_
  intro p e s m args below meth c s₁ B hml hv
  obtain ⟨rfl, hP, hK⟩ := hv
  have hx := B.exec
  have hb := B.bytes
  have hr := B.returns
  have hts := atoms_spec (ws := wsX5_sumOfSides) B.pre
  have hown : s.vm.findClass RX5 = some m.cls := findClass_of_methodNamed B.named
  have hlocks := B.notSynchronized
  have hinX5 : ∀ w ∈ u_ws RX5 TX5 2, w ∈ wsX5_sumOfSides := by decide +kernel
  have hf13 := hts (.fieldLink RX5 13 "PulseSigns$Sign" "length" "I") (by decide +kernel)
  have hl := lv_entry ([.ref h]) (n := 3) (Nat.le_of_ble_eq_true rfl)
  rw [lg_entry_eq]
  generalize (lg_sl ([.ref h]) ++ List.replicate (3 - (lg_sl ([.ref h])).length) Slot.unset).toArray = ls at hl ⊢
  refine w_Q (fun Q hQ => ?_)
  have hl : lv_has ls 3 [(0, .ref h)] := hl
  rw [fX5_sumOfSides] at hF
  refine lv_iconst (v := 0) hx hb dX5_sumOfSides_0 (by decide) ?_
  refine lv_istore_n (lv' := [(1, .int 0), (0, .ref h)]) hx hb dX5_sumOfSides_1 rfl hl (by decide) rfl (fun ls hl => ?_)
  refine lv_iconst (v := 1) hx hb dX5_sumOfSides_2 (by decide) ?_
  refine lv_istore_n (lv' := [(2, .int 1), (1, .int 0), (0, .ref h)]) hx hb dX5_sumOfSides_3 rfl hl (by decide) rfl (fun ls hl => ?_)
  have lp4 : ∀ (r4 k4 : Nat) (x1 : Int32) (ls : Array Slot), r4 = n - k4 → k4 ≤ n + 1 → lv_has ls 3 [(0, .ref h), (1, .int x1), (2, .int (nI k4))] → F_X5_sumOfSides_4 tr n r4 k4 x1 = T → W p l e (headSpec wsX5_sumOfSides rmX5_sumOfSides).room s m ([.ref h] : List Value).toArray below meth c s.heap [] 0 0 Q (F0 m 4 ls []) := by
    intro r4
    induction r4 with
    | zero =>
      intro k4 x1 ls hi4_0 hi4_1 hl hF
      rw [F_X5_sumOfSides_4] at hF
      refine lv_iload_n hx hb dX5_sumOfSides_4 rfl (lv_at hl 2 rfl) ?_
      refine lv_aload_n hx hb dX5_sumOfSides_5 rfl (lv_at hl 0 rfl) ?_
      refine va_get (D := D) (ci := 3) (v := .int (nI n)) (C := RX5) (T := TX5) (N := 2) hx hb hts hinX5 hown hK.1 hP 0 rfl rfl 1 (by decide) hf13 (fun _ h9 => h9) rfl dX5_sumOfSides_6 ?_
      refine lv_icmp_ge (tgt := 27) hx hb dX5_sumOfSides_9 (by decide) (fun c9 => ?_) (fun c9 => ?_)
      · skip
        refine lv_iload_n hx hb dX5_sumOfSides_27 rfl (lv_at hl 1 rfl) ?_
        subst hQ
        exact W.iret (v := x1) hx hb hr (fun u9 ht hW => ⟨_, rfl, hF, ht⟩) (fun q hq => by cases hq) dX5_sumOfSides_28
      · exact False.elim (c9 (nI_le (a := n) (b := k4) (by omega) (by omega)))
    | succ r4 ih4 =>
      intro k4 x1 ls hi4_0 hi4_1 hl hF
      rw [F_X5_sumOfSides_4] at hF
      refine lv_iload_n hx hb dX5_sumOfSides_4 rfl (lv_at hl 2 rfl) ?_
      refine lv_aload_n hx hb dX5_sumOfSides_5 rfl (lv_at hl 0 rfl) ?_
      refine va_get (D := D) (ci := 3) (v := .int (nI n)) (C := RX5) (T := TX5) (N := 2) hx hb hts hinX5 hown hK.1 hP 0 rfl rfl 1 (by decide) hf13 (fun _ h9 => h9) rfl dX5_sumOfSides_6 ?_
      refine lv_icmp_ge (tgt := 27) hx hb dX5_sumOfSides_9 (by decide) (fun c9 => ?_) (fun c9 => ?_)
      · exact False.elim (nI_ge (a := k4) (b := n) (by omega) (by omega) c9)
      · skip
        refine lv_iload_n hx hb dX5_sumOfSides_12 rfl (lv_at hl 1 rfl) ?_
        refine lv_aload_n hx hb dX5_sumOfSides_13 rfl (lv_at hl 0 rfl) ?_
        refine lv_iload_n hx hb dX5_sumOfSides_14 rfl (lv_at hl 2 rfl) ?_
        refine lv_iconst (v := 0) hx hb dX5_sumOfSides_15 (by decide) ?_
        refine cs_i (va_runV (As := [.int (nI k4), .int 0]) (rest := [.int x1]) ⟨hx, hb, hml, hown, hts⟩ (c_X5_ownLookSize l D cI h t tr n (nI k4) 0 (by first | assumption | omega)) (cwV 2 hts gX5_sumOfSides_X5_ownLookSize rfl rfl rfl (by decide +kernel) ⟨(Nat.le_of_ble_eq_true rfl), (Nat.le_of_ble_eq_true rfl)⟩) (ro_preV hP hK rfl (q0 := 0) rfl) rfl rfl hl.1 rfl (lv_room (Nat.le_of_ble_eq_true rfl)) dX5_sumOfSides_16 ⟨Nat.zero_le _, Nat.zero_le _⟩) ?_
        refine lv_iadd hx hb dX5_sumOfSides_19 ?_
        refine lv_istore_n (lv' := [(1, .int (x1 + (fX5_ownLookSize tr n (nI k4) 0))), (0, .ref h), (2, .int (nI k4))]) hx hb dX5_sumOfSides_20 rfl hl (by decide) rfl (fun ls hl => ?_)
        refine lv_iinc (v := nI (k4 + 1)) (lv' := [(2, .int (nI (k4 + 1))), (1, .int (x1 + (fX5_ownLookSize tr n (nI k4) 0))), (0, .ref h)]) hx hb dX5_sumOfSides_21 hl (k := 2) rfl (nI_1 _) (by decide) rfl (fun ls hl => ?_)
        refine lv_goto (tgt := 4) hx hb dX5_sumOfSides_24 (by decide) ?_
        exact ih4 (k4 + 1) (x1 + (fX5_ownLookSize tr n (nI k4) 0)) ls (by omega) (by omega)  (lv_sub hl [2, 1, 0] rfl) hF
  exact lp4 (n - 1) 1 0 ls rfl (by omega)  (lv_sub hl [2, 1, 0] rfl) hF
def F_X5_greatestOwnLook_13 (tr : Nat → Int32) (n : Nat) (k5 : Nat) (K5 : (Int32) → Int32) : Nat → Nat → Int32 → Int32
  | 0, k13, x1 => K5 x1
  | r13 + 1, k13, x1 => (if (nI k5 - 15) = 0 then (if (nI k13) = 0 then F_X5_greatestOwnLook_13 tr n k5 K5 r13 (k13 + 1) x1 else F_X5_greatestOwnLook_13 tr n k5 K5 r13 (k13 + 1) (if x1 < (fX5_ownLookSize tr n (nI k5 - 15) (nI k13)) then fX5_ownLookSize tr n (nI k5 - 15) (nI k13) else x1)) else F_X5_greatestOwnLook_13 tr n k5 K5 r13 (k13 + 1) (if x1 < (fX5_ownLookSize tr n (nI k5 - 15) (nI k13)) then fX5_ownLookSize tr n (nI k5 - 15) (nI k13) else x1))
def F_X5_greatestOwnLook_5 (tr : Nat → Int32) (n : Nat) : Nat → Nat → Int32 → Int32
  | 0, k5, x1 => x1
  | r5 + 1, k5, x1 => F_X5_greatestOwnLook_13 tr n k5 (fun z13_0 => F_X5_greatestOwnLook_5 tr n r5 (k5 + 1) z13_0) ((3 + 1) - 0) 0 x1
def fX5_greatestOwnLook (tr : Nat → Int32) (n : Nat) : Int32 := F_X5_greatestOwnLook_5 tr n (31 - 0) 0 0
abbrev rmX5_greatestOwnLook : Room := { frames := 4, cells := 0, slots := 0, locals := 93 }
set_option maxHeartbeats 4000000 in
set_option maxRecDepth 100000 in
theorem c_X5_greatestOwnLook (l : Launch) (D : va_G) (cI : ClassId) (h : Nat) (t : Nat) (tr : Nat → Int32) (n : Nat) (hn : n ≤ 16) : Met l yX5_greatestOwnLook wsX5_greatestOwnLook rmX5_greatestOwnLook (va_Pc [.ref h] (roP D [(cI, .int)] [(h, .inr (3, [.ref t, .int (nI n)])), (t, .inl (cI, 16, .inl tr))])) (vp_Si (fun r9 => r9 = fX5_greatestOwnLook tr n)) 0 0 (fun _ => False) := by
  generalize hF : fX5_greatestOwnLook tr n = T
  refine Met.ofW (cc := cX5_greatestOwnLook) (maxL := 4) (ret := (some .int)) (by decide) rfl ?_
  intro p e s m args below meth c s₁ B hml hv
  obtain ⟨rfl, hP, hK⟩ := hv
  have hx := B.exec
  have hb := B.bytes
  have hr := B.returns
  have hts := atoms_spec (ws := wsX5_greatestOwnLook) B.pre
  have hown : s.vm.findClass RX5 = some m.cls := findClass_of_methodNamed B.named
  have hlocks := B.notSynchronized
  have hml38 := hts (.methodLink RX5 38 Lib.Math.max.name) (by decide +kernel)
  have hst38 := hts (.static Lib.Math.max.name) (by decide +kernel)
  have hiM := hts (.initialized "java/lang/Math") (by decide +kernel)
  have hcd38 := hts (.code Lib.Math.max.name Lib.Math.max.code 2 (some .int)) (by decide +kernel)
  have hl := lv_entry ([.ref h]) (n := 4) (Nat.le_of_ble_eq_true rfl)
  rw [lg_entry_eq]
  generalize (lg_sl ([.ref h]) ++ List.replicate (4 - (lg_sl ([.ref h])).length) Slot.unset).toArray = ls at hl ⊢
  refine w_Q (fun Q hQ => ?_)
  have hl : lv_has ls 4 [(0, .ref h)] := hl
  rw [fX5_greatestOwnLook] at hF
  refine lv_iconst (v := 0) hx hb dX5_greatestOwnLook_0 (by decide) ?_
  refine lv_istore_n (lv' := [(1, .int 0), (0, .ref h)]) hx hb dX5_greatestOwnLook_1 rfl hl (by decide) rfl (fun ls hl => ?_)
  refine lv_bipush (v := (-15)) hx hb dX5_greatestOwnLook_2 (by decide) ?_
  refine lv_istore_n (lv' := [(2, .int (-15)), (1, .int 0), (0, .ref h)]) hx hb dX5_greatestOwnLook_4 rfl hl (by decide) rfl (fun ls hl => ?_)
  have lp5 : ∀ (r5 k5 : Nat) (x1 : Int32) (ls : Array Slot), r5 = 31 - k5 → k5 ≤ 31 + 1 → lv_has ls 4 [(0, .ref h), (1, .int x1), (2, .int (nI k5 - 15))] → F_X5_greatestOwnLook_5 tr n r5 k5 x1 = T → W p l e (headSpec wsX5_greatestOwnLook rmX5_greatestOwnLook).room s m ([.ref h] : List Value).toArray below meth c s.heap [] 0 0 Q (F0 m 5 ls []) := by
    intro r5
    induction r5 with
    | zero =>
      intro k5 x1 ls hi5_0 hi5_1 hl hF
      rw [F_X5_greatestOwnLook_5] at hF
      refine lv_iload_n hx hb dX5_greatestOwnLook_5 rfl (lv_at hl 2 rfl) ?_
      refine lv_bipush (v := 15) hx hb dX5_greatestOwnLook_6 (by decide) ?_
      refine lv_icmp_gt (tgt := 49) hx hb dX5_greatestOwnLook_8 (by decide) (fun c8 => ?_) (fun c8 => ?_)
      · skip
        refine lv_iload_n hx hb dX5_greatestOwnLook_49 rfl (lv_at hl 1 rfl) ?_
        subst hQ
        exact W.iret (v := x1) hx hb hr (fun u9 ht hW => ⟨_, rfl, hF, ht⟩) (fun q hq => by cases hq) dX5_greatestOwnLook_50
      · exact False.elim (c8 (late_out (by omega) (by omega)))
    | succ r5 ih5 =>
      intro k5 x1 ls hi5_0 hi5_1 hl hF
      rw [F_X5_greatestOwnLook_5] at hF
      refine lv_iload_n hx hb dX5_greatestOwnLook_5 rfl (lv_at hl 2 rfl) ?_
      refine lv_bipush (v := 15) hx hb dX5_greatestOwnLook_6 (by decide) ?_
      refine lv_icmp_gt (tgt := 49) hx hb dX5_greatestOwnLook_8 (by decide) (fun c8 => ?_) (fun c8 => ?_)
      · exact False.elim (late_in (by omega) c8)
      · skip
        refine lv_iconst (v := 0) hx hb dX5_greatestOwnLook_11 (by decide) ?_
        refine lv_istore_n (lv' := [(3, .int 0), (0, .ref h), (1, .int x1), (2, .int (nI k5 - 15))]) hx hb dX5_greatestOwnLook_12 rfl hl (by decide) rfl (fun ls hl => ?_)
        have lp13 : ∀ (r13 k13 : Nat) (x1 : Int32) (ls : Array Slot), r13 = (3 + 1) - k13 → k13 ≤ (3 + 1) + 1 → lv_has ls 4 [(0, .ref h), (1, .int x1), (2, .int (nI k5 - 15)), (3, .int (nI k13))] → F_X5_greatestOwnLook_13 tr n k5 (fun z13_0 => F_X5_greatestOwnLook_5 tr n r5 (k5 + 1) z13_0) r13 k13 x1 = T → W p l e (headSpec wsX5_greatestOwnLook rmX5_greatestOwnLook).room s m ([.ref h] : List Value).toArray below meth c s.heap [] 0 0 Q (F0 m 13 ls []) := by
          intro r13
          induction r13 with
          | zero =>
            intro k13 x1 ls hi13_0 hi13_1 hl hF
            rw [F_X5_greatestOwnLook_13] at hF
            refine lv_iload_n hx hb dX5_greatestOwnLook_13 rfl (lv_at hl 3 rfl) ?_
            refine lv_iconst (v := 3) hx hb dX5_greatestOwnLook_14 (by decide) ?_
            refine lv_icmp_gt (tgt := 43) hx hb dX5_greatestOwnLook_15 (by decide) (fun c15 => ?_) (fun c15 => ?_)
            · skip
              refine lv_iinc (v := nI (k5 + 1) - 15) (lv' := [(2, .int (nI (k5 + 1) - 15)), (0, .ref h), (1, .int x1), (3, .int (nI k13))]) hx hb dX5_greatestOwnLook_43 hl (k := 2) rfl (late_inc _) (by decide) rfl (fun ls hl => ?_)
              refine lv_goto (tgt := 5) hx hb dX5_greatestOwnLook_46 (by decide) ?_
              exact ih5 (k5 + 1) x1 ls (by omega) (by omega)  (lv_sub hl [1, 2, 0] rfl) hF
            · exact False.elim (c15 (nI_lt (a := 3) (b := k13) (by omega) (by omega)))
          | succ r13 ih13 =>
            intro k13 x1 ls hi13_0 hi13_1 hl hF
            rw [F_X5_greatestOwnLook_13] at hF
            refine lv_iload_n hx hb dX5_greatestOwnLook_13 rfl (lv_at hl 3 rfl) ?_
            refine lv_iconst (v := 3) hx hb dX5_greatestOwnLook_14 (by decide) ?_
            refine lv_icmp_gt (tgt := 43) hx hb dX5_greatestOwnLook_15 (by decide) (fun c15 => ?_) (fun c15 => ?_)
            · exact False.elim (nI_nlt (a := 3) (b := k13) (by omega) (by omega) c15)
            · skip
              refine lv_iload_n hx hb dX5_greatestOwnLook_18 rfl (lv_at hl 2 rfl) ?_
              refine lv_if_ne (tgt := 26) hx hb dX5_greatestOwnLook_19 (by decide) (fun c19 => ?_) (fun c19 => ?_)
              · rw [if_neg c19] at hF
                refine lv_iload_n hx hb dX5_greatestOwnLook_26 rfl (lv_at hl 1 rfl) ?_
                refine lv_aload_n hx hb dX5_greatestOwnLook_27 rfl (lv_at hl 0 rfl) ?_
                refine lv_iload_n hx hb dX5_greatestOwnLook_28 rfl (lv_at hl 2 rfl) ?_
                refine lv_iload_n hx hb dX5_greatestOwnLook_29 rfl (lv_at hl 3 rfl) ?_
                refine cs_i (va_runV (As := [.int (nI k5 - 15), .int (nI k13)]) (rest := [.int x1]) ⟨hx, hb, hml, hown, hts⟩ (c_X5_ownLookSize l D cI h t tr n (nI k5 - 15) (nI k13) (by first | assumption | omega)) (cwV 2 hts gX5_greatestOwnLook_X5_ownLookSize rfl rfl rfl (by decide +kernel) ⟨(Nat.le_of_ble_eq_true rfl), (Nat.le_of_ble_eq_true rfl)⟩) (ro_preV hP hK rfl (q0 := 0) rfl) rfl rfl hl.1 rfl (lv_room (Nat.le_of_ble_eq_true rfl)) dX5_greatestOwnLook_30 ⟨Nat.zero_le _, Nat.zero_le _⟩) ?_
                refine va_mmax hx hb (by rw [hml]; exact hl.1.symm) hown hml38 hst38 hiM hcd38 (Nat.le_of_ble_eq_true rfl) (Nat.le_of_ble_eq_true rfl) (Nat.zero_le _) (Nat.zero_le _) dX5_greatestOwnLook_33 ?_
                refine lv_istore_n (lv' := [(1, .int (if x1 < (fX5_ownLookSize tr n (nI k5 - 15) (nI k13)) then fX5_ownLookSize tr n (nI k5 - 15) (nI k13) else x1)), (0, .ref h), (2, .int (nI k5 - 15)), (3, .int (nI k13))]) hx hb dX5_greatestOwnLook_36 rfl hl (by decide) rfl (fun ls hl => ?_)
                refine lv_iinc (v := nI (k13 + 1)) (lv' := [(3, .int (nI (k13 + 1))), (1, .int (if x1 < (fX5_ownLookSize tr n (nI k5 - 15) (nI k13)) then fX5_ownLookSize tr n (nI k5 - 15) (nI k13) else x1)), (0, .ref h), (2, .int (nI k5 - 15))]) hx hb dX5_greatestOwnLook_37 hl (k := 3) rfl (nI_1 _) (by decide) rfl (fun ls hl => ?_)
                refine lv_goto (tgt := 13) hx hb dX5_greatestOwnLook_40 (by decide) ?_
                exact ih13 (k13 + 1) (if x1 < (fX5_ownLookSize tr n (nI k5 - 15) (nI k13)) then fX5_ownLookSize tr n (nI k5 - 15) (nI k13) else x1) ls (by omega) (by omega)  (lv_sub hl [2, 1, 3, 0] rfl) hF
              · rw [if_pos c19] at hF
                refine lv_iload_n hx hb dX5_greatestOwnLook_22 rfl (lv_at hl 3 rfl) ?_
                refine lv_if_eq (tgt := 37) hx hb dX5_greatestOwnLook_23 (by decide) (fun c23 => ?_) (fun c23 => ?_)
                · rw [if_pos c23] at hF
                  refine lv_iinc (v := nI (k13 + 1)) (lv' := [(3, .int (nI (k13 + 1))), (0, .ref h), (1, .int x1), (2, .int (nI k5 - 15))]) hx hb dX5_greatestOwnLook_37 hl (k := 3) rfl (nI_1 _) (by decide) rfl (fun ls hl => ?_)
                  refine lv_goto (tgt := 13) hx hb dX5_greatestOwnLook_40 (by decide) ?_
                  exact ih13 (k13 + 1) x1 ls (by omega) (by omega)  (lv_sub hl [1, 2, 3, 0] rfl) hF
                · rw [if_neg c23] at hF
                  refine lv_iload_n hx hb dX5_greatestOwnLook_26 rfl (lv_at hl 1 rfl) ?_
                  refine lv_aload_n hx hb dX5_greatestOwnLook_27 rfl (lv_at hl 0 rfl) ?_
                  refine lv_iload_n hx hb dX5_greatestOwnLook_28 rfl (lv_at hl 2 rfl) ?_
                  refine lv_iload_n hx hb dX5_greatestOwnLook_29 rfl (lv_at hl 3 rfl) ?_
                  refine cs_i (va_runV (As := [.int (nI k5 - 15), .int (nI k13)]) (rest := [.int x1]) ⟨hx, hb, hml, hown, hts⟩ (c_X5_ownLookSize l D cI h t tr n (nI k5 - 15) (nI k13) (by first | assumption | omega)) (cwV 2 hts gX5_greatestOwnLook_X5_ownLookSize rfl rfl rfl (by decide +kernel) ⟨(Nat.le_of_ble_eq_true rfl), (Nat.le_of_ble_eq_true rfl)⟩) (ro_preV hP hK rfl (q0 := 0) rfl) rfl rfl hl.1 rfl (lv_room (Nat.le_of_ble_eq_true rfl)) dX5_greatestOwnLook_30 ⟨Nat.zero_le _, Nat.zero_le _⟩) ?_
                  refine va_mmax hx hb (by rw [hml]; exact hl.1.symm) hown hml38 hst38 hiM hcd38 (Nat.le_of_ble_eq_true rfl) (Nat.le_of_ble_eq_true rfl) (Nat.zero_le _) (Nat.zero_le _) dX5_greatestOwnLook_33 ?_
                  refine lv_istore_n (lv' := [(1, .int (if x1 < (fX5_ownLookSize tr n (nI k5 - 15) (nI k13)) then fX5_ownLookSize tr n (nI k5 - 15) (nI k13) else x1)), (0, .ref h), (2, .int (nI k5 - 15)), (3, .int (nI k13))]) hx hb dX5_greatestOwnLook_36 rfl hl (by decide) rfl (fun ls hl => ?_)
                  refine lv_iinc (v := nI (k13 + 1)) (lv' := [(3, .int (nI (k13 + 1))), (1, .int (if x1 < (fX5_ownLookSize tr n (nI k5 - 15) (nI k13)) then fX5_ownLookSize tr n (nI k5 - 15) (nI k13) else x1)), (0, .ref h), (2, .int (nI k5 - 15))]) hx hb dX5_greatestOwnLook_37 hl (k := 3) rfl (nI_1 _) (by decide) rfl (fun ls hl => ?_)
                  refine lv_goto (tgt := 13) hx hb dX5_greatestOwnLook_40 (by decide) ?_
                  exact ih13 (k13 + 1) (if x1 < (fX5_ownLookSize tr n (nI k5 - 15) (nI k13)) then fX5_ownLookSize tr n (nI k5 - 15) (nI k13) else x1) ls (by omega) (by omega)  (lv_sub hl [2, 1, 3, 0] rfl) hF
        exact lp13 ((3 + 1) - 0) 0 x1 ls rfl (by omega)  (lv_sub hl [1, 2, 3, 0] rfl) hF
  exact lp5 (31 - 0) 0 0 ls rfl (by omega)  (lv_sub hl [2, 1, 0] rfl) hF
def F_X5_sidesGoOutWith_25 (tr : Nat → Int32) (n : Nat) (tr2 : Nat → Int32) (n2 : Nat) (k15 : Nat) (K15 : Unit → Int32) : Nat → Nat → Int32
  | 0, k25 => K15 ()
  | r25 + 1, k25 => (if ((fX5_lookPart tr n tr n (nI k15) 0 (nI k25)) + (fX5_lookPart tr2 n2 tr2 n2 (nI k15) 0 (nI k25))) = 0 then F_X5_sidesGoOutWith_25 tr n tr2 n2 k15 K15 r25 (k25 + 1)  else 0)
def F_X5_sidesGoOutWith_15 (tr : Nat → Int32) (n : Nat) (tr2 : Nat → Int32) (n2 : Nat) : Nat → Nat → Int32
  | 0, k15 => 1
  | r15 + 1, k15 => F_X5_sidesGoOutWith_25 tr n tr2 n2 k15 (fun _ => F_X5_sidesGoOutWith_15 tr n tr2 n2 r15 (k15 + 1) ) ((1 + 1) - 0) 0 
def fX5_sidesGoOutWith (tr : Nat → Int32) (n : Nat) (tr2 : Nat → Int32) (n2 : Nat) : Int32 := (if (nI n) = (nI n2) then F_X5_sidesGoOutWith_15 tr n tr2 n2 (n - 1) 1  else 0)
abbrev rmX5_sidesGoOutWith : Room := { frames := 3, cells := 0, slots := 0, locals := 69 }
set_option maxHeartbeats 4000000 in
set_option maxRecDepth 100000 in
theorem c_X5_sidesGoOutWith (l : Launch) (D : va_G) (cI : ClassId) (h : Nat) (t : Nat) (tr : Nat → Int32) (n : Nat) (h2 : Nat) (t2 : Nat) (tr2 : Nat → Int32) (n2 : Nat) (hn : n ≤ 16) (hn2 : n2 ≤ 16) : Met l yX5_sidesGoOutWith wsX5_sidesGoOutWith rmX5_sidesGoOutWith (va_Pc [.ref h, .ref h2] (roP D [(cI, .int)] [(h, .inr (3, [.ref t, .int (nI n)])), (t, .inl (cI, 16, .inl tr)), (h2, .inr (3, [.ref t2, .int (nI n2)])), (t2, .inl (cI, 16, .inl tr2))])) (vp_Si (fun r9 => r9 = fX5_sidesGoOutWith tr n tr2 n2)) 0 0 (fun _ => False) := by
  generalize hF : fX5_sidesGoOutWith tr n tr2 n2 = T
  refine Met.ofW (cc := cX5_sidesGoOutWith) (maxL := 4) (ret := (some .boolean)) (by decide) rfl ?_
  intro p e s m args below meth c s₁ B hml hv
  obtain ⟨rfl, hP, hK⟩ := hv
  have hx := B.exec
  have hb := B.bytes
  have hr := B.returns
  have hts := atoms_spec (ws := wsX5_sidesGoOutWith) B.pre
  have hown : s.vm.findClass RX5 = some m.cls := findClass_of_methodNamed B.named
  have hlocks := B.notSynchronized
  have hinX5 : ∀ w ∈ u_ws RX5 TX5 2, w ∈ wsX5_sidesGoOutWith := by decide +kernel
  have hf13 := hts (.fieldLink RX5 13 "PulseSigns$Sign" "length" "I") (by decide +kernel)
  have hl := lv_entry ([.ref h, .ref h2]) (n := 4) (Nat.le_of_ble_eq_true rfl)
  rw [lg_entry_eq]
  generalize (lg_sl ([.ref h, .ref h2]) ++ List.replicate (4 - (lg_sl ([.ref h, .ref h2])).length) Slot.unset).toArray = ls at hl ⊢
  refine w_Q (fun Q hQ => ?_)
  have hl : lv_has ls 4 [(0, .ref h), (1, .ref h2)] := hl
  rw [fX5_sidesGoOutWith] at hF
  refine lv_aload_n hx hb dX5_sidesGoOutWith_0 rfl (lv_at hl 0 rfl) ?_
  refine va_get (D := D) (ci := 3) (v := .int (nI n)) (C := RX5) (T := TX5) (N := 2) hx hb hts hinX5 hown hK.1 hP 0 rfl rfl 1 (by decide) hf13 (fun _ h9 => h9) rfl dX5_sidesGoOutWith_1 ?_
  refine lv_aload_n hx hb dX5_sidesGoOutWith_4 rfl (lv_at hl 1 rfl) ?_
  refine va_get (D := D) (ci := 3) (v := .int (nI n2)) (C := RX5) (T := TX5) (N := 2) hx hb hts hinX5 hown hK.1 hP 2 rfl rfl 1 (by decide) hf13 (fun _ h9 => h9) rfl dX5_sidesGoOutWith_5 ?_
  refine lv_icmp_eq (tgt := 13) hx hb dX5_sidesGoOutWith_8 (by decide) (fun c8 => ?_) (fun c8 => ?_)
  · rw [if_pos c8] at hF
    refine lv_iconst (v := 1) hx hb dX5_sidesGoOutWith_13 (by decide) ?_
    refine lv_istore_n (lv' := [(2, .int 1), (0, .ref h), (1, .ref h2)]) hx hb dX5_sidesGoOutWith_14 rfl hl (by decide) rfl (fun ls hl => ?_)
    have lp15 : ∀ (r15 k15 : Nat)  (ls : Array Slot), r15 = n - k15 → k15 ≤ n + 1 → lv_has ls 4 [(0, .ref h), (1, .ref h2), (2, .int (nI k15))] → F_X5_sidesGoOutWith_15 tr n tr2 n2 r15 k15  = T → W p l e (headSpec wsX5_sidesGoOutWith rmX5_sidesGoOutWith).room s m ([.ref h, .ref h2] : List Value).toArray below meth c s.heap [] 0 0 Q (F0 m 15 ls []) := by
      intro r15
      induction r15 with
      | zero =>
        intro k15  ls hi15_0 hi15_1 hl hF
        rw [F_X5_sidesGoOutWith_15] at hF
        refine lv_iload_n hx hb dX5_sidesGoOutWith_15 rfl (lv_at hl 2 rfl) ?_
        refine lv_aload_n hx hb dX5_sidesGoOutWith_16 rfl (lv_at hl 0 rfl) ?_
        refine va_get (D := D) (ci := 3) (v := .int (nI n)) (C := RX5) (T := TX5) (N := 2) hx hb hts hinX5 hown hK.1 hP 0 rfl rfl 1 (by decide) hf13 (fun _ h9 => h9) rfl dX5_sidesGoOutWith_17 ?_
        refine lv_icmp_ge (tgt := 64) hx hb dX5_sidesGoOutWith_20 (by decide) (fun c20 => ?_) (fun c20 => ?_)
        · skip
          refine lv_iconst (v := 1) hx hb dX5_sidesGoOutWith_64 (by decide) ?_
          subst hQ
          exact W.zret (v := 1) (ty := .boolean) hx hb hr rfl (fun u9 ht hW => ⟨_, rfl, hF, ht⟩) (fun q hq => by cases hq) dX5_sidesGoOutWith_65
        · exact False.elim (c20 (nI_le (a := n) (b := k15) (by omega) (by omega)))
      | succ r15 ih15 =>
        intro k15  ls hi15_0 hi15_1 hl hF
        rw [F_X5_sidesGoOutWith_15] at hF
        refine lv_iload_n hx hb dX5_sidesGoOutWith_15 rfl (lv_at hl 2 rfl) ?_
        refine lv_aload_n hx hb dX5_sidesGoOutWith_16 rfl (lv_at hl 0 rfl) ?_
        refine va_get (D := D) (ci := 3) (v := .int (nI n)) (C := RX5) (T := TX5) (N := 2) hx hb hts hinX5 hown hK.1 hP 0 rfl rfl 1 (by decide) hf13 (fun _ h9 => h9) rfl dX5_sidesGoOutWith_17 ?_
        refine lv_icmp_ge (tgt := 64) hx hb dX5_sidesGoOutWith_20 (by decide) (fun c20 => ?_) (fun c20 => ?_)
        · exact False.elim (nI_ge (a := k15) (b := n) (by omega) (by omega) c20)
        · skip
          refine lv_iconst (v := 0) hx hb dX5_sidesGoOutWith_23 (by decide) ?_
          refine lv_istore_n (lv' := [(3, .int 0), (0, .ref h), (1, .ref h2), (2, .int (nI k15))]) hx hb dX5_sidesGoOutWith_24 rfl hl (by decide) rfl (fun ls hl => ?_)
          have lp25 : ∀ (r25 k25 : Nat)  (ls : Array Slot), r25 = (1 + 1) - k25 → k25 ≤ (1 + 1) + 1 → lv_has ls 4 [(0, .ref h), (1, .ref h2), (2, .int (nI k15)), (3, .int (nI k25))] → F_X5_sidesGoOutWith_25 tr n tr2 n2 k15 (fun _ => F_X5_sidesGoOutWith_15 tr n tr2 n2 r15 (k15 + 1) ) r25 k25  = T → W p l e (headSpec wsX5_sidesGoOutWith rmX5_sidesGoOutWith).room s m ([.ref h, .ref h2] : List Value).toArray below meth c s.heap [] 0 0 Q (F0 m 25 ls []) := by
            intro r25
            induction r25 with
            | zero =>
              intro k25  ls hi25_0 hi25_1 hl hF
              rw [F_X5_sidesGoOutWith_25] at hF
              refine lv_iload_n hx hb dX5_sidesGoOutWith_25 rfl (lv_at hl 3 rfl) ?_
              refine lv_iconst (v := 1) hx hb dX5_sidesGoOutWith_26 (by decide) ?_
              refine lv_icmp_gt (tgt := 58) hx hb dX5_sidesGoOutWith_27 (by decide) (fun c27 => ?_) (fun c27 => ?_)
              · skip
                refine lv_iinc (v := nI (k15 + 1)) (lv' := [(2, .int (nI (k15 + 1))), (0, .ref h), (1, .ref h2), (3, .int (nI k25))]) hx hb dX5_sidesGoOutWith_58 hl (k := 2) rfl (nI_1 _) (by decide) rfl (fun ls hl => ?_)
                refine lv_goto (tgt := 15) hx hb dX5_sidesGoOutWith_61 (by decide) ?_
                exact ih15 (k15 + 1)  ls (by omega) (by omega)  (lv_sub hl [1, 2, 0] rfl) hF
              · exact False.elim (c27 (nI_lt (a := 1) (b := k25) (by omega) (by omega)))
            | succ r25 ih25 =>
              intro k25  ls hi25_0 hi25_1 hl hF
              rw [F_X5_sidesGoOutWith_25] at hF
              refine lv_iload_n hx hb dX5_sidesGoOutWith_25 rfl (lv_at hl 3 rfl) ?_
              refine lv_iconst (v := 1) hx hb dX5_sidesGoOutWith_26 (by decide) ?_
              refine lv_icmp_gt (tgt := 58) hx hb dX5_sidesGoOutWith_27 (by decide) (fun c27 => ?_) (fun c27 => ?_)
              · exact False.elim (nI_nlt (a := 1) (b := k25) (by omega) (by omega) c27)
              · skip
                refine lv_aload_n hx hb dX5_sidesGoOutWith_30 rfl (lv_at hl 0 rfl) ?_
                refine lv_aload_n hx hb dX5_sidesGoOutWith_31 rfl (lv_at hl 0 rfl) ?_
                refine lv_iload_n hx hb dX5_sidesGoOutWith_32 rfl (lv_at hl 2 rfl) ?_
                refine lv_iconst (v := 0) hx hb dX5_sidesGoOutWith_33 (by decide) ?_
                refine lv_iload_n hx hb dX5_sidesGoOutWith_34 rfl (lv_at hl 3 rfl) ?_
                have hPc := hP.sub (ws' := [(h, .inr (3, [.ref t, .int (nI n)])), (t, .inl (cI, 16, .inl tr)), (h, .inr (3, [.ref t, .int (nI n)])), (t, .inl (cI, 16, .inl tr))]) [0, 1, 0, 1] rfl
                refine cs_i (va_runV (As := [.ref h, .int (nI k15), .int 0, .int (nI k25)]) (rest := []) ⟨hx, hb, hml, hown, hts⟩ (c_X5_lookPart l D cI h t tr n h t tr n (nI k15) 0 (nI k25) (by first | assumption | omega) (by first | assumption | omega)) (cwV 4 hts gX5_sidesGoOutWith_X5_lookPart rfl rfl rfl (by decide +kernel) ⟨(Nat.le_of_ble_eq_true rfl), (Nat.le_of_ble_eq_true rfl)⟩) (ro_preV hPc hK rfl (q0 := 0) rfl) rfl rfl hl.1 rfl (lv_room (Nat.le_of_ble_eq_true rfl)) dX5_sidesGoOutWith_35 ⟨Nat.zero_le _, Nat.zero_le _⟩) ?_
                refine lv_aload_n hx hb dX5_sidesGoOutWith_38 rfl (lv_at hl 1 rfl) ?_
                refine lv_aload_n hx hb dX5_sidesGoOutWith_39 rfl (lv_at hl 1 rfl) ?_
                refine lv_iload_n hx hb dX5_sidesGoOutWith_40 rfl (lv_at hl 2 rfl) ?_
                refine lv_iconst (v := 0) hx hb dX5_sidesGoOutWith_41 (by decide) ?_
                refine lv_iload_n hx hb dX5_sidesGoOutWith_42 rfl (lv_at hl 3 rfl) ?_
                have hPc := hP.sub (ws' := [(h2, .inr (3, [.ref t2, .int (nI n2)])), (t2, .inl (cI, 16, .inl tr2)), (h2, .inr (3, [.ref t2, .int (nI n2)])), (t2, .inl (cI, 16, .inl tr2))]) [2, 3, 2, 3] rfl
                refine cs_i (va_runV (As := [.ref h2, .int (nI k15), .int 0, .int (nI k25)]) (rest := [.int (fX5_lookPart tr n tr n (nI k15) 0 (nI k25))]) ⟨hx, hb, hml, hown, hts⟩ (c_X5_lookPart l D cI h2 t2 tr2 n2 h2 t2 tr2 n2 (nI k15) 0 (nI k25) (by first | assumption | omega) (by first | assumption | omega)) (cwV 4 hts gX5_sidesGoOutWith_X5_lookPart rfl rfl rfl (by decide +kernel) ⟨(Nat.le_of_ble_eq_true rfl), (Nat.le_of_ble_eq_true rfl)⟩) (ro_preV hPc hK rfl (q0 := 0) rfl) rfl rfl hl.1 rfl (lv_room (Nat.le_of_ble_eq_true rfl)) dX5_sidesGoOutWith_43 ⟨Nat.zero_le _, Nat.zero_le _⟩) ?_
                refine lv_iadd hx hb dX5_sidesGoOutWith_46 ?_
                refine lv_if_eq (tgt := 52) hx hb dX5_sidesGoOutWith_47 (by decide) (fun c47 => ?_) (fun c47 => ?_)
                · rw [if_pos c47] at hF
                  refine lv_iinc (v := nI (k25 + 1)) (lv' := [(3, .int (nI (k25 + 1))), (0, .ref h), (1, .ref h2), (2, .int (nI k15))]) hx hb dX5_sidesGoOutWith_52 hl (k := 3) rfl (nI_1 _) (by decide) rfl (fun ls hl => ?_)
                  refine lv_goto (tgt := 25) hx hb dX5_sidesGoOutWith_55 (by decide) ?_
                  exact ih25 (k25 + 1)  ls (by omega) (by omega)  (lv_sub hl [1, 2, 3, 0] rfl) hF
                · rw [if_neg c47] at hF
                  refine lv_iconst (v := 0) hx hb dX5_sidesGoOutWith_50 (by decide) ?_
                  subst hQ
                  exact W.zret (v := 0) (ty := .boolean) hx hb hr rfl (fun u9 ht hW => ⟨_, rfl, hF, ht⟩) (fun q hq => by cases hq) dX5_sidesGoOutWith_51
          exact lp25 ((1 + 1) - 0) 0  ls rfl (by omega)  (lv_sub hl [1, 2, 3, 0] rfl) hF
    exact lp15 (n - 1) 1  ls rfl (by omega)  (lv_sub hl [1, 2, 0] rfl) hF
  · rw [if_neg c8] at hF
    refine lv_iconst (v := 0) hx hb dX5_sidesGoOutWith_11 (by decide) ?_
    subst hQ
    exact W.zret (v := 0) (ty := .boolean) hx hb hr rfl (fun u9 ht hW => ⟨_, rfl, hF, ht⟩) (fun q hq => by cases hq) dX5_sidesGoOutWith_12
