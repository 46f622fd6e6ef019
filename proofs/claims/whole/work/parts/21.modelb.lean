theorem in_iff {v lo hi : Int32} : ¬ fX7_in v lo hi = 0 ↔ (lo ≤ v ∧ v ≤ hi) := by
  unfold fX7_in
  simp only [i32_le, i32_lt]
  constructor
  · intro h
    split at h
    · exact absurd rfl h
    · split at h
      · exact absurd rfl h
      · omega
  · intro h
    rw [if_neg (by omega), if_neg (by omega)]
    decide
theorem in_nat {v : Int32} {a b : Nat} (h : ¬ fX7_in v (nI a) (nI b) = 0) (hb : b < 2 ^ 31) (ha : a < 2 ^ 31 := by omega) : ∃ j, a ≤ j ∧ j ≤ b ∧ v = nI j := by
  obtain ⟨h1, h2⟩ := in_iff.mp h
  rw [i32_le] at h1 h2
  rw [nI_toInt hb] at h2
  rw [nI_toInt ha] at h1
  obtain ⟨j, hj, e⟩ := nI_of (x := v) (by rw [i32_lt]; simp only [show (0 : Int32).toInt = 0 from rfl]; omega)
  rw [e, nI_toInt hj] at h1 h2
  exact ⟨j, by omega, by omega, e⟩
theorem sign_nat {v : Int32} (h : ¬ fX7_isSign v = 0) : ∃ j, j ≤ 5 ∧ v = nI j := by
  obtain ⟨j, -, h2, e⟩ := in_nat (a := 0) (b := 5) h (by omega)
  exact ⟨j, h2, e⟩
theorem in_m1 {v : Int32} {n : Nat} (h : ¬ fX7_in v 0 (nI n - 1) = 0) (hn : n < 2 ^ 30) : ∃ j, j < n ∧ v = nI j := by
  obtain ⟨h1, h2⟩ := in_iff.mp h
  rw [i32_le] at h1 h2
  rw [nI_m1_toInt hn] at h2
  simp only [show (0 : Int32).toInt = 0 from rfl] at h1
  obtain ⟨j, hj, e⟩ := nI_of (x := v) (by rw [i32_lt]; simp only [show (0 : Int32).toInt = 0 from rfl]; omega)
  rw [e, nI_toInt hj] at h2
  exact ⟨j, by omega, e⟩
theorem idx16 (a b : Nat) : 16 * nI a + nI b = nI (16 * a + b) := by
  rw [show (16 : Int32) = nI 16 from rfl, pk_mul, nI_add]
theorem looks_ix {a k n : Nat} {kk : Int32} (h : ¬ fX7_in (nI k + kk) 0 (nI n - 1) = 0) (hn : n ≤ 16) : ∃ j, j < n ∧ nI k + kk = nI j ∧ 16 * nI a + nI k + kk = nI (16 * a + j) := by
  obtain ⟨j, hj, e⟩ := in_m1 h (by omega)
  exact ⟨j, hj, e, by rw [Int32.add_assoc, e, idx16]⟩
theorem looks_in {a k n : Nat} {kk : Int32} (h : ¬ fX7_in (nI k + kk) 0 (nI n - 1) = 0) (hn : n ≤ 16) (ha : a < 6) (h0 : 0 ≤ k) : vp_in (16 * nI a + nI k + kk) 96 := by
  obtain ⟨j, hj, -, e⟩ := looks_ix (a := a) h hn
  rw [e]
  exact vp_in_nI (by omega) (by omega)
theorem updN_ok {f : Nat → Nat} {k x : Nat} (h : ∀ c, c < 6 → 1 ≤ f c ∧ f c ≤ 16) (h1 : 1 ≤ x) (h2 : x ≤ 16) : ∀ c, c < 6 → 1 ≤ updN f k x c ∧ updN f k x c ≤ 16 := by
  intro c hc
  unfold updN
  split
  · exact ⟨h1, h2⟩
  · exact h c hc
theorem shl2_tab : ∀ n : Fin 13, (1 : Int32) <<< ((nI n.val) &&& 31) = nI (2 ^ n.val) := by decide
theorem shl2 {n : Nat} (h : n ≤ 12) : (1 : Int32) <<< (nI n &&& 31) = nI (2 ^ n) := shl2_tab ⟨n, by omega⟩
def F_X7_size_32 (sn : Nat → Nat) (cn : Nat) (nn : Nat) : Nat → Nat → (Nat → Int32) → (Int32 × (Nat → Nat) × (Nat → Int32))
  | 0, k32, tu => (nI nn, updN sn cn nn, tu)
  | r32 + 1, k32, tu => F_X7_size_32 sn cn nn r32 (k32 + 1) (upd tu (16 * cn + k32) 0)
def fX7_size (sn : Nat → Nat) (tu : Nat → Int32) (xc : Int32) (xn : Int32) : Int32 × (Nat → Nat) × (Nat → Int32) := (if (fX7_isSign xc) = 0 then ((-101), sn, tu) else (if (fX7_in xn 1 16) = 0 then ((-102), sn, tu) else F_X7_size_32 sn (xc.toNatClampNeg) (xn.toNatClampNeg) (16 - 0) 0 tu))
abbrev rmX7_size : Room := { frames := 2, cells := 0, slots := 0, locals := 42 }
set_option maxHeartbeats 4000000 in
set_option maxRecDepth 100000 in
theorem c_X7_size (l : Launch) (D : va_G) (cI : ClassId) (sz : Nat) (h : Nat) (a0 : Nat) (a1 : Nat) (a3 : Nat) (a5 : Nat) (a6 : Nat) (a8 : Nat) (a12 : Nat) (sn : Nat → Nat) (tu : Nat → Int32) (fn : Nat) (we : Nat → Int32) (rn : Nat) (per : Nat → Nat) (rea : Nat → Int32) (wn : Nat) (rw : Nat → Int32) (bs : Nat) (re : Int32) (ot : Int32) (cp : Nat → Int32) (ab : Int64) (be : Int64) (hh : Int64) (xc : Int32) (xn : Int32)  : Met l yX7_size wsX7_size rmX7_size (va_Pc [.ref h, .int xc, .int xn] (wrP D [(cI, .int)] [(h, .inr (5, [.ref a0, .ref a1, .int (nI fn), .ref a3, .int (nI rn), .ref a5, .ref a6, .int (nI wn), .ref a8, .int (nI bs), .int re, .int ot, .ref a12, .long ab, .long be, .long hh])), (a0, .inl (cI, 6, .inl (fun i => nI (sn i)))), (a1, .inl (cI, 96, .inl tu)), (a3, .inl (cI, 24, .inl we)), (a5, .inl (cI, 4, .inl (fun i => nI (per i)))), (a6, .inl (cI, 4, .inl rea)), (a8, .inl (cI, 64, .inl rw)), (a12, .inl (cI, 16, .inl cp))] sz)) (va_Qi (fun r9 (_ : Unit) => r9 = (fX7_size sn tu xc xn).1) (fun _ u9 => va_P D vwCl [(h, .inr (5, [.ref a0, .ref a1, .int (nI fn), .ref a3, .int (nI rn), .ref a5, .ref a6, .int (nI wn), .ref a8, .int (nI bs), .int re, .int ot, .ref a12, .long ab, .long be, .long hh])), (a0, .inl (cI, 6, .inl (fun i => nI (((fX7_size sn tu xc xn).2.1) i)))), (a1, .inl (cI, 96, .inl ((fX7_size sn tu xc xn).2.2))), (a3, .inl (cI, 24, .inl we)), (a5, .inl (cI, 4, .inl (fun i => nI (per i)))), (a6, .inl (cI, 4, .inl rea)), (a8, .inl (cI, 64, .inl rw)), (a12, .inl (cI, 16, .inl cp))] u9.heap) (va_A [(h, .inr (5, [.ref a0, .ref a1, .int (nI fn), .ref a3, .int (nI rn), .ref a5, .ref a6, .int (nI wn), .ref a8, .int (nI bs), .int re, .int ot, .ref a12, .long ab, .long be, .long hh])), (a0, .inl (cI, 6, .inl (fun i => nI (sn i)))), (a1, .inl (cI, 96, .inl tu)), (a3, .inl (cI, 24, .inl we)), (a5, .inl (cI, 4, .inl (fun i => nI (per i)))), (a6, .inl (cI, 4, .inl rea)), (a8, .inl (cI, 64, .inl rw)), (a12, .inl (cI, 16, .inl cp))] sz)) 0 0 (va_A [(h, .inr (5, [.ref a0, .ref a1, .int (nI fn), .ref a3, .int (nI rn), .ref a5, .ref a6, .int (nI wn), .ref a8, .int (nI bs), .int re, .int ot, .ref a12, .long ab, .long be, .long hh])), (a0, .inl (cI, 6, .inl (fun i => nI (sn i)))), (a1, .inl (cI, 96, .inl tu)), (a3, .inl (cI, 24, .inl we)), (a5, .inl (cI, 4, .inl (fun i => nI (per i)))), (a6, .inl (cI, 4, .inl rea)), (a8, .inl (cI, 64, .inl rw)), (a12, .inl (cI, 16, .inl cp))] sz) := by
  generalize hF : fX7_size sn tu xc xn = T
  refine Met.ofW (cc := cX7_size) (maxL := 4) (ret := (some .int)) (by decide) rfl ?_
  intro p e s m args below meth c s₁ B hml hv
  obtain ⟨rfl, hsz, hP, hK, hD0⟩ := hv
  have hx := B.exec
  have hb := B.bytes
  have hr := B.returns
  have hts := atoms_spec (ws := wsX7_size) B.pre
  have hown : s.vm.findClass RX7 = some m.cls := findClass_of_methodNamed B.named
  have hlocks := B.notSynchronized
  have hinX7 : ∀ w ∈ u_ws RX7 TX7 16, w ∈ wsX7_size := by decide +kernel
  have hf7 := hts (.fieldLink RX7 7 "PulseSignsModel" "sizes" "[I") (by decide +kernel)
  have hf13 := hts (.fieldLink RX7 13 "PulseSignsModel" "turns" "[I") (by decide +kernel)
  subst hsz
  have hD := hD0.self (sz := s.heap.size)
  generalize hAe : va_A [(h, .inr (5, [.ref a0, .ref a1, .int (nI fn), .ref a3, .int (nI rn), .ref a5, .ref a6, .int (nI wn), .ref a8, .int (nI bs), .int re, .int ot, .ref a12, .long ab, .long be, .long hh])), (a0, .inl (cI, 6, .inl (fun i => nI (sn i)))), (a1, .inl (cI, 96, .inl tu)), (a3, .inl (cI, 24, .inl we)), (a5, .inl (cI, 4, .inl (fun i => nI (per i)))), (a6, .inl (cI, 4, .inl rea)), (a8, .inl (cI, 64, .inl rw)), (a12, .inl (cI, 16, .inl cp))] s.heap.size = A at hD ⊢
  have hA : ∀ q : Nat, s.heap.size ≤ q → A q := fun q h => by rw [← hAe]; exact Or.inr h
  have hS : va_S A s.heap s.heap [] := va_S.rf
  have hP : va_P D vwCl [(h, .inr (5, [.ref a0, .ref a1, .int (nI fn), .ref a3, .int (nI rn), .ref a5, .ref a6, .int (nI wn), .ref a8, .int (nI bs), .int re, .int ot, .ref a12, .long ab, .long be, .long hh])), (a0, .inl (cI, 6, .inl (fun i => nI (sn i)))), (a1, .inl (cI, 96, .inl tu)), (a3, .inl (cI, 24, .inl we)), (a5, .inl (cI, 4, .inl (fun i => nI (per i)))), (a6, .inl (cI, 4, .inl rea)), (a8, .inl (cI, 64, .inl rw)), (a12, .inl (cI, 16, .inl cp))] s.heap := hP
  have hl := lv_entry ([.ref h, .int xc, .int xn]) (n := 4) (Nat.le_of_ble_eq_true rfl)
  rw [lg_entry_eq]
  generalize (lg_sl ([.ref h, .int xc, .int xn]) ++ List.replicate (4 - (lg_sl ([.ref h, .int xc, .int xn])).length) Slot.unset).toArray = ls at hl ⊢
  refine w_Q (fun Q hQ => ?_)
  have hl : lv_has ls 4 [(0, .ref h), (1, .int xc), (2, .int xn)] := hl
  rw [fX7_size] at hF
  refine lv_iload_n hx hb dX7_size_0 rfl (lv_at hl 1 rfl) ?_
  have hPc := hP.sub (ws' := []) [] rfl
  refine cs_i (va_runS (As := [.int xc]) (rest := []) ⟨hx, hb, hml, hown, hts⟩ (c_X7_isSign l D cI xc ) (va_cwS 1 hts gX7_size_X7_isSign rfl rfl rfl (by decide +kernel) ⟨(Nat.le_of_ble_eq_true rfl), (Nat.le_of_ble_eq_true rfl)⟩) (ro_pre hPc hK) rfl rfl hl.1 rfl (lv_room (Nat.le_of_ble_eq_true rfl)) dX7_size_1 ⟨Nat.zero_le _, Nat.zero_le _⟩) ?_
  refine lv_if_ne (tgt := 10) hx hb dX7_size_4 (by decide) (fun c4 => ?_) (fun c4 => ?_)
  · rw [if_neg c4] at hF
    obtain ⟨cn, hcn, rfl⟩ := sign_nat c4
    have e_cn : (nI cn).toNatClampNeg = cn := nI_clamp (by omega)
    try simp only [e_cn] at hF
    refine lv_iload_n hx hb dX7_size_10 rfl (lv_at hl 2 rfl) ?_
    refine lv_iconst (v := 1) hx hb dX7_size_11 (by decide) ?_
    refine lv_bipush (v := 16) hx hb dX7_size_12 (by decide) ?_
    have hPc := hP.sub (ws' := []) [] rfl
    refine cs_i (va_runS (As := [.int xn, .int 1, .int 16]) (rest := []) ⟨hx, hb, hml, hown, hts⟩ (c_X7_in l D cI xn 1 16 ) (va_cwS 3 hts gX7_size_X7_in rfl rfl rfl (by decide +kernel) ⟨(Nat.le_of_ble_eq_true rfl), (Nat.le_of_ble_eq_true rfl)⟩) (ro_pre hPc hK) rfl rfl hl.1 rfl (lv_room (Nat.le_of_ble_eq_true rfl)) dX7_size_14 ⟨Nat.zero_le _, Nat.zero_le _⟩) ?_
    refine lv_if_ne (tgt := 23) hx hb dX7_size_17 (by decide) (fun c17 => ?_) (fun c17 => ?_)
    · rw [if_neg c17] at hF
      obtain ⟨nn, hnn1, hnn, rfl⟩ := in_nat (a := 1) (b := 16) c17 (by omega)
      have e_nn : (nI nn).toNatClampNeg = nn := nI_clamp (by omega)
      try simp only [e_nn] at hF
      refine lv_aload_n hx hb dX7_size_23 rfl (lv_at hl 0 rfl) ?_
      refine va_get (D := D) (ci := 5) (v := .ref a0) (C := RX7) (T := TX7) (N := 16) hx hb hts hinX7 hown hK.1 hP 0 rfl rfl 0 (by decide) hf7 (fun _ h9 => h9) rfl dX7_size_24 ?_
      refine lv_iload_n hx hb dX7_size_27 rfl (lv_at hl 1 rfl) ?_
      refine lv_iload_n hx hb dX7_size_28 rfl (lv_at hl 2 rfl) ?_
      refine w_ast hx hb hK hP hD hS 1 0 rfl rfl (cn) rfl (by omega) (by omega) dX7_size_29 (fun H locs hP hD hS => ?_)
      rw [updN_row] at hP hD
      have hP : va_P D vwCl [(h, .inr (5, [.ref a0, .ref a1, .int (nI fn), .ref a3, .int (nI rn), .ref a5, .ref a6, .int (nI wn), .ref a8, .int (nI bs), .int re, .int ot, .ref a12, .long ab, .long be, .long hh])), (a0, .inl (cI, 6, .inl (fun i => nI ((updN sn cn nn) i)))), (a1, .inl (cI, 96, .inl tu)), (a3, .inl (cI, 24, .inl we)), (a5, .inl (cI, 4, .inl (fun i => nI (per i)))), (a6, .inl (cI, 4, .inl rea)), (a8, .inl (cI, 64, .inl rw)), (a12, .inl (cI, 16, .inl cp))] H := hP
      have hD : va_D A [(h, .inr (5, [.ref a0, .ref a1, .int (nI fn), .ref a3, .int (nI rn), .ref a5, .ref a6, .int (nI wn), .ref a8, .int (nI bs), .int re, .int ot, .ref a12, .long ab, .long be, .long hh])), (a0, .inl (cI, 6, .inl (fun i => nI ((updN sn cn nn) i)))), (a1, .inl (cI, 96, .inl tu)), (a3, .inl (cI, 24, .inl we)), (a5, .inl (cI, 4, .inl (fun i => nI (per i)))), (a6, .inl (cI, 4, .inl rea)), (a8, .inl (cI, 64, .inl rw)), (a12, .inl (cI, 16, .inl cp))] := hD
      refine lv_iconst (v := 0) hx hb dX7_size_30 (by decide) ?_
      refine lv_istore_n (lv' := [(3, .int 0), (0, .ref h), (1, .int (nI cn)), (2, .int (nI nn))]) hx hb dX7_size_31 rfl hl (by decide) rfl (fun ls hl => ?_)
      have lp32 : ∀ (r32 k32 : Nat) (tu : Nat → Int32) (H : Heap) (locs : List Loc) (ls : Array Slot), r32 = 16 - k32 → k32 ≤ 16 + 1 → va_P D vwCl [(h, .inr (5, [.ref a0, .ref a1, .int (nI fn), .ref a3, .int (nI rn), .ref a5, .ref a6, .int (nI wn), .ref a8, .int (nI bs), .int re, .int ot, .ref a12, .long ab, .long be, .long hh])), (a0, .inl (cI, 6, .inl (fun i => nI ((updN sn cn nn) i)))), (a1, .inl (cI, 96, .inl tu)), (a3, .inl (cI, 24, .inl we)), (a5, .inl (cI, 4, .inl (fun i => nI (per i)))), (a6, .inl (cI, 4, .inl rea)), (a8, .inl (cI, 64, .inl rw)), (a12, .inl (cI, 16, .inl cp))] H → va_D A [(h, .inr (5, [.ref a0, .ref a1, .int (nI fn), .ref a3, .int (nI rn), .ref a5, .ref a6, .int (nI wn), .ref a8, .int (nI bs), .int re, .int ot, .ref a12, .long ab, .long be, .long hh])), (a0, .inl (cI, 6, .inl (fun i => nI ((updN sn cn nn) i)))), (a1, .inl (cI, 96, .inl tu)), (a3, .inl (cI, 24, .inl we)), (a5, .inl (cI, 4, .inl (fun i => nI (per i)))), (a6, .inl (cI, 4, .inl rea)), (a8, .inl (cI, 64, .inl rw)), (a12, .inl (cI, 16, .inl cp))] → va_S A s.heap H locs → lv_has ls 4 [(0, .ref h), (1, .int (nI cn)), (2, .int (nI nn)), (3, .int (nI k32))] → F_X7_size_32 sn cn nn r32 k32 tu = T → W p l e (headSpec wsX7_size rmX7_size).room s m ([.ref h, .int (nI cn), .int (nI nn)] : List Value).toArray below meth c H locs 0 0 Q (F0 m 32 ls []) := by
        intro r32
        induction r32 with
        | zero =>
          intro k32 tu H locs ls hi32_0 hi32_1 hP hD hS hl hF
          rw [F_X7_size_32] at hF
          refine lv_iload_n hx hb dX7_size_32 rfl (lv_at hl 3 rfl) ?_
          refine lv_bipush (v := 16) hx hb dX7_size_33 (by decide) ?_
          refine lv_icmp_ge (tgt := 56) hx hb dX7_size_35 (by decide) (fun c35 => ?_) (fun c35 => ?_)
          · skip
            refine lv_iload_n hx hb dX7_size_56 rfl (lv_at hl 2 rfl) ?_
            subst hF
            subst hQ
            exact W.iret (v := nI nn) hx hb hr (fun u9 ht hW => ⟨⟨_, (), rfl, rfl, by rw [← ht] at hP; exact hP⟩, hS.F ht⟩) hS.2.2 dX7_size_57
          · exact False.elim (c35 (nI_le (a := 16) (b := k32) (by omega) (by omega)))
        | succ r32 ih32 =>
          intro k32 tu H locs ls hi32_0 hi32_1 hP hD hS hl hF
          rw [F_X7_size_32] at hF
          refine lv_iload_n hx hb dX7_size_32 rfl (lv_at hl 3 rfl) ?_
          refine lv_bipush (v := 16) hx hb dX7_size_33 (by decide) ?_
          refine lv_icmp_ge (tgt := 56) hx hb dX7_size_35 (by decide) (fun c35 => ?_) (fun c35 => ?_)
          · exact False.elim (nI_ge (a := k32) (b := 16) (by omega) (by omega) c35)
          · skip
            refine lv_aload_n hx hb dX7_size_38 rfl (lv_at hl 0 rfl) ?_
            refine va_get (D := D) (ci := 5) (v := .ref a1) (C := RX7) (T := TX7) (N := 16) hx hb hts hinX7 hown hK.1 hP 0 rfl rfl 1 (by decide) hf13 (fun _ h9 => h9) rfl dX7_size_39 ?_
            refine lv_bipush (v := 16) hx hb dX7_size_42 (by decide) ?_
            refine lv_iload_n hx hb dX7_size_44 rfl (lv_at hl 1 rfl) ?_
            refine lv_imul hx hb dX7_size_45 ?_
            refine lv_iload_n hx hb dX7_size_46 rfl (lv_at hl 3 rfl) ?_
            refine lv_iadd hx hb dX7_size_47 ?_
            refine lv_iconst (v := 0) hx hb dX7_size_48 (by decide) ?_
            refine w_ast hx hb hK hP hD hS 2 0 rfl rfl (16 * cn + k32) (idx16 _ _) (by omega) (by omega) dX7_size_49 (fun H locs hP hD hS => ?_)
            have hP : va_P D vwCl [(h, .inr (5, [.ref a0, .ref a1, .int (nI fn), .ref a3, .int (nI rn), .ref a5, .ref a6, .int (nI wn), .ref a8, .int (nI bs), .int re, .int ot, .ref a12, .long ab, .long be, .long hh])), (a0, .inl (cI, 6, .inl (fun i => nI ((updN sn cn nn) i)))), (a1, .inl (cI, 96, .inl (upd tu (16 * cn + k32) 0))), (a3, .inl (cI, 24, .inl we)), (a5, .inl (cI, 4, .inl (fun i => nI (per i)))), (a6, .inl (cI, 4, .inl rea)), (a8, .inl (cI, 64, .inl rw)), (a12, .inl (cI, 16, .inl cp))] H := hP
            have hD : va_D A [(h, .inr (5, [.ref a0, .ref a1, .int (nI fn), .ref a3, .int (nI rn), .ref a5, .ref a6, .int (nI wn), .ref a8, .int (nI bs), .int re, .int ot, .ref a12, .long ab, .long be, .long hh])), (a0, .inl (cI, 6, .inl (fun i => nI ((updN sn cn nn) i)))), (a1, .inl (cI, 96, .inl (upd tu (16 * cn + k32) 0))), (a3, .inl (cI, 24, .inl we)), (a5, .inl (cI, 4, .inl (fun i => nI (per i)))), (a6, .inl (cI, 4, .inl rea)), (a8, .inl (cI, 64, .inl rw)), (a12, .inl (cI, 16, .inl cp))] := hD
            refine lv_iinc (v := nI (k32 + 1)) (lv' := [(3, .int (nI (k32 + 1))), (0, .ref h), (1, .int (nI cn)), (2, .int (nI nn))]) hx hb dX7_size_50 hl (k := 3) rfl (nI_1 _) (by decide) rfl (fun ls hl => ?_)
            refine lv_goto (tgt := 32) hx hb dX7_size_53 (by decide) ?_
            exact ih32 (k32 + 1) (upd tu (16 * cn + k32) 0) H locs ls (by omega) (by omega) hP hD hS (lv_sub hl [1, 2, 3, 0] rfl) hF
      exact lp32 (16 - 0) 0 tu H _ ls rfl (by omega) hP hD hS (lv_sub hl [1, 2, 3, 0] rfl) hF
    · rw [if_pos c17] at hF
      refine lv_bipush (v := (-102)) hx hb dX7_size_20 (by decide) ?_
      subst hF
      subst hQ
      exact W.iret (v := (-102)) hx hb hr (fun u9 ht hW => ⟨⟨_, (), rfl, rfl, by rw [← ht] at hP; exact hP⟩, hS.F ht⟩) hS.2.2 dX7_size_22
  · rw [if_pos c4] at hF
    refine lv_bipush (v := (-101)) hx hb dX7_size_7 (by decide) ?_
    subst hF
    subst hQ
    exact W.iret (v := (-101)) hx hb hr (fun u9 ht hW => ⟨⟨_, (), rfl, rfl, by rw [← ht] at hP; exact hP⟩, hS.F ht⟩) hS.2.2 dX7_size_9
def fX7_turn (sn : Nat → Nat) (tu : Nat → Int32) (xc : Int32) (xi : Int32) (xq : Int32) : Int32 × (Nat → Int32) := (if (fX7_isSign xc) = 0 then ((-101), tu) else (if (fX7_in xi 0 ((nI (sn (xc.toNatClampNeg))) - 1)) = 0 then ((-101), tu) else (if (fX7_in xq 0 3) = 0 then ((-102), tu) else (tu (16 * (xc.toNatClampNeg) + (xi.toNatClampNeg)), upd tu (16 * (xc.toNatClampNeg) + (xi.toNatClampNeg)) xq))))
abbrev rmX7_turn : Room := { frames := 2, cells := 0, slots := 0, locals := 42 }
set_option maxHeartbeats 4000000 in
set_option maxRecDepth 100000 in
theorem c_X7_turn (l : Launch) (D : va_G) (cI : ClassId) (sz : Nat) (h : Nat) (a0 : Nat) (a1 : Nat) (a3 : Nat) (a5 : Nat) (a6 : Nat) (a8 : Nat) (a12 : Nat) (sn : Nat → Nat) (tu : Nat → Int32) (fn : Nat) (we : Nat → Int32) (rn : Nat) (per : Nat → Nat) (rea : Nat → Int32) (wn : Nat) (rw : Nat → Int32) (bs : Nat) (re : Int32) (ot : Int32) (cp : Nat → Int32) (ab : Int64) (be : Int64) (hh : Int64) (xc : Int32) (xi : Int32) (xq : Int32) (hsn : ∀ c, c < 6 → 1 ≤ sn c ∧ sn c ≤ 16) : Met l yX7_turn wsX7_turn rmX7_turn (va_Pc [.ref h, .int xc, .int xi, .int xq] (wrP D [(cI, .int)] [(h, .inr (5, [.ref a0, .ref a1, .int (nI fn), .ref a3, .int (nI rn), .ref a5, .ref a6, .int (nI wn), .ref a8, .int (nI bs), .int re, .int ot, .ref a12, .long ab, .long be, .long hh])), (a0, .inl (cI, 6, .inl (fun i => nI (sn i)))), (a1, .inl (cI, 96, .inl tu)), (a3, .inl (cI, 24, .inl we)), (a5, .inl (cI, 4, .inl (fun i => nI (per i)))), (a6, .inl (cI, 4, .inl rea)), (a8, .inl (cI, 64, .inl rw)), (a12, .inl (cI, 16, .inl cp))] sz)) (va_Qi (fun r9 (_ : Unit) => r9 = (fX7_turn sn tu xc xi xq).1) (fun _ u9 => va_P D vwCl [(h, .inr (5, [.ref a0, .ref a1, .int (nI fn), .ref a3, .int (nI rn), .ref a5, .ref a6, .int (nI wn), .ref a8, .int (nI bs), .int re, .int ot, .ref a12, .long ab, .long be, .long hh])), (a0, .inl (cI, 6, .inl (fun i => nI (sn i)))), (a1, .inl (cI, 96, .inl ((fX7_turn sn tu xc xi xq).2))), (a3, .inl (cI, 24, .inl we)), (a5, .inl (cI, 4, .inl (fun i => nI (per i)))), (a6, .inl (cI, 4, .inl rea)), (a8, .inl (cI, 64, .inl rw)), (a12, .inl (cI, 16, .inl cp))] u9.heap) (va_A [(h, .inr (5, [.ref a0, .ref a1, .int (nI fn), .ref a3, .int (nI rn), .ref a5, .ref a6, .int (nI wn), .ref a8, .int (nI bs), .int re, .int ot, .ref a12, .long ab, .long be, .long hh])), (a0, .inl (cI, 6, .inl (fun i => nI (sn i)))), (a1, .inl (cI, 96, .inl tu)), (a3, .inl (cI, 24, .inl we)), (a5, .inl (cI, 4, .inl (fun i => nI (per i)))), (a6, .inl (cI, 4, .inl rea)), (a8, .inl (cI, 64, .inl rw)), (a12, .inl (cI, 16, .inl cp))] sz)) 0 0 (va_A [(h, .inr (5, [.ref a0, .ref a1, .int (nI fn), .ref a3, .int (nI rn), .ref a5, .ref a6, .int (nI wn), .ref a8, .int (nI bs), .int re, .int ot, .ref a12, .long ab, .long be, .long hh])), (a0, .inl (cI, 6, .inl (fun i => nI (sn i)))), (a1, .inl (cI, 96, .inl tu)), (a3, .inl (cI, 24, .inl we)), (a5, .inl (cI, 4, .inl (fun i => nI (per i)))), (a6, .inl (cI, 4, .inl rea)), (a8, .inl (cI, 64, .inl rw)), (a12, .inl (cI, 16, .inl cp))] sz) := by
  generalize hF : fX7_turn sn tu xc xi xq = T
  refine Met.ofW (cc := cX7_turn) (maxL := 5) (ret := (some .int)) (by decide) rfl ?_
  intro p e s m args below meth c s₁ B hml hv
  obtain ⟨rfl, hsz, hP, hK, hD0⟩ := hv
  have hx := B.exec
  have hb := B.bytes
  have hr := B.returns
  have hts := atoms_spec (ws := wsX7_turn) B.pre
  have hown : s.vm.findClass RX7 = some m.cls := findClass_of_methodNamed B.named
  have hlocks := B.notSynchronized
  have hinX7 : ∀ w ∈ u_ws RX7 TX7 16, w ∈ wsX7_turn := by decide +kernel
  have hf7 := hts (.fieldLink RX7 7 "PulseSignsModel" "sizes" "[I") (by decide +kernel)
  have hf13 := hts (.fieldLink RX7 13 "PulseSignsModel" "turns" "[I") (by decide +kernel)
  subst hsz
  have hD := hD0.self (sz := s.heap.size)
  generalize hAe : va_A [(h, .inr (5, [.ref a0, .ref a1, .int (nI fn), .ref a3, .int (nI rn), .ref a5, .ref a6, .int (nI wn), .ref a8, .int (nI bs), .int re, .int ot, .ref a12, .long ab, .long be, .long hh])), (a0, .inl (cI, 6, .inl (fun i => nI (sn i)))), (a1, .inl (cI, 96, .inl tu)), (a3, .inl (cI, 24, .inl we)), (a5, .inl (cI, 4, .inl (fun i => nI (per i)))), (a6, .inl (cI, 4, .inl rea)), (a8, .inl (cI, 64, .inl rw)), (a12, .inl (cI, 16, .inl cp))] s.heap.size = A at hD ⊢
  have hA : ∀ q : Nat, s.heap.size ≤ q → A q := fun q h => by rw [← hAe]; exact Or.inr h
  have hS : va_S A s.heap s.heap [] := va_S.rf
  have hP : va_P D vwCl [(h, .inr (5, [.ref a0, .ref a1, .int (nI fn), .ref a3, .int (nI rn), .ref a5, .ref a6, .int (nI wn), .ref a8, .int (nI bs), .int re, .int ot, .ref a12, .long ab, .long be, .long hh])), (a0, .inl (cI, 6, .inl (fun i => nI (sn i)))), (a1, .inl (cI, 96, .inl tu)), (a3, .inl (cI, 24, .inl we)), (a5, .inl (cI, 4, .inl (fun i => nI (per i)))), (a6, .inl (cI, 4, .inl rea)), (a8, .inl (cI, 64, .inl rw)), (a12, .inl (cI, 16, .inl cp))] s.heap := hP
  have hl := lv_entry ([.ref h, .int xc, .int xi, .int xq]) (n := 5) (Nat.le_of_ble_eq_true rfl)
  rw [lg_entry_eq]
  generalize (lg_sl ([.ref h, .int xc, .int xi, .int xq]) ++ List.replicate (5 - (lg_sl ([.ref h, .int xc, .int xi, .int xq])).length) Slot.unset).toArray = ls at hl ⊢
  refine w_Q (fun Q hQ => ?_)
  have hl : lv_has ls 5 [(0, .ref h), (1, .int xc), (2, .int xi), (3, .int xq)] := hl
  rw [fX7_turn] at hF
  refine lv_iload_n hx hb dX7_turn_0 rfl (lv_at hl 1 rfl) ?_
  have hPc := hP.sub (ws' := []) [] rfl
  refine cs_i (va_runS (As := [.int xc]) (rest := []) ⟨hx, hb, hml, hown, hts⟩ (c_X7_isSign l D cI xc ) (va_cwS 1 hts gX7_turn_X7_isSign rfl rfl rfl (by decide +kernel) ⟨(Nat.le_of_ble_eq_true rfl), (Nat.le_of_ble_eq_true rfl)⟩) (ro_pre hPc hK) rfl rfl hl.1 rfl (lv_room (Nat.le_of_ble_eq_true rfl)) dX7_turn_1 ⟨Nat.zero_le _, Nat.zero_le _⟩) ?_
  refine lv_if_eq (tgt := 23) hx hb dX7_turn_4 (by decide) (fun c4 => ?_) (fun c4 => ?_)
  · rw [if_pos c4] at hF
    refine lv_bipush (v := (-101)) hx hb dX7_turn_23 (by decide) ?_
    subst hF
    subst hQ
    exact W.iret (v := (-101)) hx hb hr (fun u9 ht hW => ⟨⟨_, (), rfl, rfl, by rw [← ht] at hP; exact hP⟩, hS.F ht⟩) hS.2.2 dX7_turn_25
  · rw [if_neg c4] at hF
    obtain ⟨cn, hcn, rfl⟩ := sign_nat c4
    have h16 := hsn cn (by omega)
    have e_cn : (nI cn).toNatClampNeg = cn := nI_clamp (by omega)
    try simp only [e_cn] at hF
    refine lv_iload_n hx hb dX7_turn_7 rfl (lv_at hl 2 rfl) ?_
    refine lv_iconst (v := 0) hx hb dX7_turn_8 (by decide) ?_
    refine lv_aload_n hx hb dX7_turn_9 rfl (lv_at hl 0 rfl) ?_
    refine va_get (D := D) (ci := 5) (v := .ref a0) (C := RX7) (T := TX7) (N := 16) hx hb hts hinX7 hown hK.1 hP 0 rfl rfl 0 (by decide) hf7 (fun _ h9 => h9) rfl dX7_turn_10 ?_
    refine lv_iload_n hx hb dX7_turn_13 rfl (lv_at hl 1 rfl) ?_
    refine w_ald hx hb hK hP 1 0 rfl rfl (cn) rfl (by omega) (by omega) dX7_turn_14 ?_
    refine lv_iconst (v := 1) hx hb dX7_turn_15 (by decide) ?_
    refine lv_isub hx hb dX7_turn_16 ?_
    have hPc := hP.sub (ws' := []) [] rfl
    refine cs_i (va_runS (As := [.int xi, .int 0, .int ((nI (sn cn)) - 1)]) (rest := []) ⟨hx, hb, hml, hown, hts⟩ (c_X7_in l D cI xi 0 ((nI (sn cn)) - 1) ) (va_cwS 3 hts gX7_turn_X7_in rfl rfl rfl (by decide +kernel) ⟨(Nat.le_of_ble_eq_true rfl), (Nat.le_of_ble_eq_true rfl)⟩) (ro_pre hPc hK) rfl rfl hl.1 rfl (lv_room (Nat.le_of_ble_eq_true rfl)) dX7_turn_17 ⟨Nat.zero_le _, Nat.zero_le _⟩) ?_
    refine lv_if_ne (tgt := 26) hx hb dX7_turn_20 (by decide) (fun c20 => ?_) (fun c20 => ?_)
    · rw [if_neg c20] at hF
      obtain ⟨ii, hii, rfl⟩ := in_m1 c20 (by omega)
      have e_ii : (nI ii).toNatClampNeg = ii := nI_clamp (by omega)
      try simp only [e_ii] at hF
      refine lv_iload_n hx hb dX7_turn_26 rfl (lv_at hl 3 rfl) ?_
      refine lv_iconst (v := 0) hx hb dX7_turn_27 (by decide) ?_
      refine lv_iconst (v := 3) hx hb dX7_turn_28 (by decide) ?_
      have hPc := hP.sub (ws' := []) [] rfl
      refine cs_i (va_runS (As := [.int xq, .int 0, .int 3]) (rest := []) ⟨hx, hb, hml, hown, hts⟩ (c_X7_in l D cI xq 0 3 ) (va_cwS 3 hts gX7_turn_X7_in rfl rfl rfl (by decide +kernel) ⟨(Nat.le_of_ble_eq_true rfl), (Nat.le_of_ble_eq_true rfl)⟩) (ro_pre hPc hK) rfl rfl hl.1 rfl (lv_room (Nat.le_of_ble_eq_true rfl)) dX7_turn_29 ⟨Nat.zero_le _, Nat.zero_le _⟩) ?_
      refine lv_if_ne (tgt := 38) hx hb dX7_turn_32 (by decide) (fun c32 => ?_) (fun c32 => ?_)
      · rw [if_neg c32] at hF
        refine lv_aload_n hx hb dX7_turn_38 rfl (lv_at hl 0 rfl) ?_
        refine va_get (D := D) (ci := 5) (v := .ref a1) (C := RX7) (T := TX7) (N := 16) hx hb hts hinX7 hown hK.1 hP 0 rfl rfl 1 (by decide) hf13 (fun _ h9 => h9) rfl dX7_turn_39 ?_
        refine lv_bipush (v := 16) hx hb dX7_turn_42 (by decide) ?_
        refine lv_iload_n hx hb dX7_turn_44 rfl (lv_at hl 1 rfl) ?_
        refine lv_imul hx hb dX7_turn_45 ?_
        refine lv_iload_n hx hb dX7_turn_46 rfl (lv_at hl 2 rfl) ?_
        refine lv_iadd hx hb dX7_turn_47 ?_
        refine w_ald hx hb hK hP 2 0 rfl rfl (16 * cn + ii) (idx16 _ _) (by omega) (by omega) dX7_turn_48 ?_
        refine lv_istore (lv' := [(4, .int (tu (16 * cn + ii))), (0, .ref h), (1, .int (nI cn)), (2, .int (nI ii)), (3, .int xq)]) hx hb dX7_turn_49 hl (by decide) rfl (fun ls hl => ?_)
        refine lv_aload_n hx hb dX7_turn_51 rfl (lv_at hl 1 rfl) ?_
        refine va_get (D := D) (ci := 5) (v := .ref a1) (C := RX7) (T := TX7) (N := 16) hx hb hts hinX7 hown hK.1 hP 0 rfl rfl 1 (by decide) hf13 (fun _ h9 => h9) rfl dX7_turn_52 ?_
        refine lv_bipush (v := 16) hx hb dX7_turn_55 (by decide) ?_
        refine lv_iload_n hx hb dX7_turn_57 rfl (lv_at hl 2 rfl) ?_
        refine lv_imul hx hb dX7_turn_58 ?_
        refine lv_iload_n hx hb dX7_turn_59 rfl (lv_at hl 3 rfl) ?_
        refine lv_iadd hx hb dX7_turn_60 ?_
        refine lv_iload_n hx hb dX7_turn_61 rfl (lv_at hl 4 rfl) ?_
        refine w_ast hx hb hK hP hD hS 2 0 rfl rfl (16 * cn + ii) (idx16 _ _) (by omega) (by omega) dX7_turn_62 (fun H locs hP hD hS => ?_)
        have hP : va_P D vwCl [(h, .inr (5, [.ref a0, .ref a1, .int (nI fn), .ref a3, .int (nI rn), .ref a5, .ref a6, .int (nI wn), .ref a8, .int (nI bs), .int re, .int ot, .ref a12, .long ab, .long be, .long hh])), (a0, .inl (cI, 6, .inl (fun i => nI (sn i)))), (a1, .inl (cI, 96, .inl (upd tu (16 * cn + ii) xq))), (a3, .inl (cI, 24, .inl we)), (a5, .inl (cI, 4, .inl (fun i => nI (per i)))), (a6, .inl (cI, 4, .inl rea)), (a8, .inl (cI, 64, .inl rw)), (a12, .inl (cI, 16, .inl cp))] H := hP
        have hD : va_D A [(h, .inr (5, [.ref a0, .ref a1, .int (nI fn), .ref a3, .int (nI rn), .ref a5, .ref a6, .int (nI wn), .ref a8, .int (nI bs), .int re, .int ot, .ref a12, .long ab, .long be, .long hh])), (a0, .inl (cI, 6, .inl (fun i => nI (sn i)))), (a1, .inl (cI, 96, .inl (upd tu (16 * cn + ii) xq))), (a3, .inl (cI, 24, .inl we)), (a5, .inl (cI, 4, .inl (fun i => nI (per i)))), (a6, .inl (cI, 4, .inl rea)), (a8, .inl (cI, 64, .inl rw)), (a12, .inl (cI, 16, .inl cp))] := hD
        refine lv_iload hx hb dX7_turn_63 (lv_at hl 0 rfl) ?_
        subst hF
        subst hQ
        exact W.iret (v := tu (16 * cn + ii)) hx hb hr (fun u9 ht hW => ⟨⟨_, (), rfl, rfl, by rw [← ht] at hP; exact hP⟩, hS.F ht⟩) hS.2.2 dX7_turn_65
      · rw [if_pos c32] at hF
        refine lv_bipush (v := (-102)) hx hb dX7_turn_35 (by decide) ?_
        subst hF
        subst hQ
        exact W.iret (v := (-102)) hx hb hr (fun u9 ht hW => ⟨⟨_, (), rfl, rfl, by rw [← ht] at hP; exact hP⟩, hS.F ht⟩) hS.2.2 dX7_turn_37
    · rw [if_pos c20] at hF
      refine lv_bipush (v := (-101)) hx hb dX7_turn_23 (by decide) ?_
      subst hF
      subst hQ
      exact W.iret (v := (-101)) hx hb hr (fun u9 ht hW => ⟨⟨_, (), rfl, rfl, by rw [← ht] at hP; exact hP⟩, hS.F ht⟩) hS.2.2 dX7_turn_25
def fX7_turned (sn : Nat → Nat) (tu : Nat → Int32) (xc : Int32) (xi : Int32) : Int32 := (if (fX7_isSign xc) = 0 then (-101) else (if (fX7_in xi 0 ((nI (sn (xc.toNatClampNeg))) - 1)) = 0 then (-1) else tu (16 * (xc.toNatClampNeg) + (xi.toNatClampNeg))))
abbrev rmX7_turned : Room := { frames := 2, cells := 0, slots := 0, locals := 42 }
set_option maxHeartbeats 4000000 in
set_option maxRecDepth 100000 in
theorem c_X7_turned (l : Launch) (D : va_G) (cI : ClassId) (h : Nat) (a0 : Nat) (a1 : Nat) (a3 : Nat) (a5 : Nat) (a6 : Nat) (a8 : Nat) (a12 : Nat) (sn : Nat → Nat) (tu : Nat → Int32) (fn : Nat) (we : Nat → Int32) (rn : Nat) (per : Nat → Nat) (rea : Nat → Int32) (wn : Nat) (rw : Nat → Int32) (bs : Nat) (re : Int32) (ot : Int32) (cp : Nat → Int32) (ab : Int64) (be : Int64) (hh : Int64) (xc : Int32) (xi : Int32) (hsn : ∀ c, c < 6 → 1 ≤ sn c ∧ sn c ≤ 16) : Met l yX7_turned wsX7_turned rmX7_turned (va_Pc [.ref h, .int xc, .int xi] (roP D [(cI, .int)] [(h, .inr (5, [.ref a0, .ref a1, .int (nI fn), .ref a3, .int (nI rn), .ref a5, .ref a6, .int (nI wn), .ref a8, .int (nI bs), .int re, .int ot, .ref a12, .long ab, .long be, .long hh])), (a0, .inl (cI, 6, .inl (fun i => nI (sn i)))), (a1, .inl (cI, 96, .inl tu)), (a3, .inl (cI, 24, .inl we)), (a5, .inl (cI, 4, .inl (fun i => nI (per i)))), (a6, .inl (cI, 4, .inl rea)), (a8, .inl (cI, 64, .inl rw)), (a12, .inl (cI, 16, .inl cp))])) (vp_Si (fun r9 => r9 = fX7_turned sn tu xc xi)) 0 0 (fun _ => False) := by
  generalize hF : fX7_turned sn tu xc xi = T
  refine Met.ofW (cc := cX7_turned) (maxL := 3) (ret := (some .int)) (by decide) rfl ?_
  intro p e s m args below meth c s₁ B hml hv
  obtain ⟨rfl, hP, hK⟩ := hv
  have hx := B.exec
  have hb := B.bytes
  have hr := B.returns
  have hts := atoms_spec (ws := wsX7_turned) B.pre
  have hown : s.vm.findClass RX7 = some m.cls := findClass_of_methodNamed B.named
  have hlocks := B.notSynchronized
  have hinX7 : ∀ w ∈ u_ws RX7 TX7 16, w ∈ wsX7_turned := by decide +kernel
  have hf7 := hts (.fieldLink RX7 7 "PulseSignsModel" "sizes" "[I") (by decide +kernel)
  have hf13 := hts (.fieldLink RX7 13 "PulseSignsModel" "turns" "[I") (by decide +kernel)
  have hl := lv_entry ([.ref h, .int xc, .int xi]) (n := 3) (Nat.le_of_ble_eq_true rfl)
  rw [lg_entry_eq]
  generalize (lg_sl ([.ref h, .int xc, .int xi]) ++ List.replicate (3 - (lg_sl ([.ref h, .int xc, .int xi])).length) Slot.unset).toArray = ls at hl ⊢
  refine w_Q (fun Q hQ => ?_)
  have hl : lv_has ls 3 [(0, .ref h), (1, .int xc), (2, .int xi)] := hl
  rw [fX7_turned] at hF
  refine lv_iload_n hx hb dX7_turned_0 rfl (lv_at hl 1 rfl) ?_
  have hPc := hP.sub (ws' := []) [] rfl
  refine cs_i (va_runS (As := [.int xc]) (rest := []) ⟨hx, hb, hml, hown, hts⟩ (c_X7_isSign l D cI xc ) (va_cwS 1 hts gX7_turned_X7_isSign rfl rfl rfl (by decide +kernel) ⟨(Nat.le_of_ble_eq_true rfl), (Nat.le_of_ble_eq_true rfl)⟩) (ro_pre hPc hK) rfl rfl hl.1 rfl (lv_room (Nat.le_of_ble_eq_true rfl)) dX7_turned_1 ⟨Nat.zero_le _, Nat.zero_le _⟩) ?_
  refine lv_if_ne (tgt := 10) hx hb dX7_turned_4 (by decide) (fun c4 => ?_) (fun c4 => ?_)
  · rw [if_neg c4] at hF
    obtain ⟨cn, hcn, rfl⟩ := sign_nat c4
    have h16 := hsn cn (by omega)
    have e_cn : (nI cn).toNatClampNeg = cn := nI_clamp (by omega)
    try simp only [e_cn] at hF
    refine lv_iload_n hx hb dX7_turned_10 rfl (lv_at hl 2 rfl) ?_
    refine lv_iconst (v := 0) hx hb dX7_turned_11 (by decide) ?_
    refine lv_aload_n hx hb dX7_turned_12 rfl (lv_at hl 0 rfl) ?_
    refine va_get (D := D) (ci := 5) (v := .ref a0) (C := RX7) (T := TX7) (N := 16) hx hb hts hinX7 hown hK.1 hP 0 rfl rfl 0 (by decide) hf7 (fun _ h9 => h9) rfl dX7_turned_13 ?_
    refine lv_iload_n hx hb dX7_turned_16 rfl (lv_at hl 1 rfl) ?_
    refine w_ald hx hb hK hP 1 0 rfl rfl (cn) rfl (by omega) (by omega) dX7_turned_17 ?_
    refine lv_iconst (v := 1) hx hb dX7_turned_18 (by decide) ?_
    refine lv_isub hx hb dX7_turned_19 ?_
    have hPc := hP.sub (ws' := []) [] rfl
    refine cs_i (va_runS (As := [.int xi, .int 0, .int ((nI (sn cn)) - 1)]) (rest := []) ⟨hx, hb, hml, hown, hts⟩ (c_X7_in l D cI xi 0 ((nI (sn cn)) - 1) ) (va_cwS 3 hts gX7_turned_X7_in rfl rfl rfl (by decide +kernel) ⟨(Nat.le_of_ble_eq_true rfl), (Nat.le_of_ble_eq_true rfl)⟩) (ro_pre hPc hK) rfl rfl hl.1 rfl (lv_room (Nat.le_of_ble_eq_true rfl)) dX7_turned_20 ⟨Nat.zero_le _, Nat.zero_le _⟩) ?_
    refine lv_if_eq (tgt := 40) hx hb dX7_turned_23 (by decide) (fun c23 => ?_) (fun c23 => ?_)
    · rw [if_pos c23] at hF
      refine lv_iconst (v := (-1)) hx hb dX7_turned_40 (by decide) ?_
      subst hQ
      exact W.iret (v := (-1)) hx hb hr (fun u9 ht hW => ⟨_, rfl, hF, ht⟩) (fun q hq => by cases hq) dX7_turned_41
    · rw [if_neg c23] at hF
      obtain ⟨ii, hii, rfl⟩ := in_m1 c23 (by omega)
      have e_ii : (nI ii).toNatClampNeg = ii := nI_clamp (by omega)
      try simp only [e_ii] at hF
      refine lv_aload_n hx hb dX7_turned_26 rfl (lv_at hl 0 rfl) ?_
      refine va_get (D := D) (ci := 5) (v := .ref a1) (C := RX7) (T := TX7) (N := 16) hx hb hts hinX7 hown hK.1 hP 0 rfl rfl 1 (by decide) hf13 (fun _ h9 => h9) rfl dX7_turned_27 ?_
      refine lv_bipush (v := 16) hx hb dX7_turned_30 (by decide) ?_
      refine lv_iload_n hx hb dX7_turned_32 rfl (lv_at hl 1 rfl) ?_
      refine lv_imul hx hb dX7_turned_33 ?_
      refine lv_iload_n hx hb dX7_turned_34 rfl (lv_at hl 2 rfl) ?_
      refine lv_iadd hx hb dX7_turned_35 ?_
      refine w_ald hx hb hK hP 2 0 rfl rfl (16 * cn + ii) (idx16 _ _) (by omega) (by omega) dX7_turned_36 ?_
      refine lv_goto (tgt := 41) hx hb dX7_turned_37 (by decide) ?_
      subst hQ
      exact W.iret (v := tu (16 * cn + ii)) hx hb hr (fun u9 ht hW => ⟨_, rfl, hF, ht⟩) (fun q hq => by cases hq) dX7_turned_41
  · rw [if_pos c4] at hF
    refine lv_bipush (v := (-101)) hx hb dX7_turned_7 (by decide) ?_
    subst hQ
    exact W.iret (v := (-101)) hx hb hr (fun u9 ht hW => ⟨_, rfl, hF, ht⟩) (fun q hq => by cases hq) dX7_turned_9
def F_X7_made_128 (sn : Nat → Nat) (cp : Nat → Int32) (an : Nat) (cn : Nat) : Nat → Nat → (Nat → Int32) → (Int32 × (Nat → Nat) × (Nat → Int32) × (Nat → Int32))
  | 0, k128, tu => (nI (sn an), updN sn cn (sn an), tu, cp)
  | r128 + 1, k128, tu => (if (nI (sn an)) ≤ (nI k128) then F_X7_made_128 sn cp an cn r128 (k128 + 1) (upd tu (16 * cn + k128) 0) else F_X7_made_128 sn cp an cn r128 (k128 + 1) (upd tu (16 * cn + k128) (cp k128)))
def F_X7_made_40 (sn : Nat → Nat) (tu : Nat → Int32) (xs : Int32) (an : Nat) (cn : Nat) : Nat → Nat → (Nat → Int32) → (Int32 × (Nat → Nat) × (Nat → Int32) × (Nat → Int32))
  | 0, k40, cp => F_X7_made_128 sn cp an cn  (16 - 0) 0 tu
  | r40 + 1, k40, cp => (if xs = 0 then (if xs = 0 then F_X7_made_40 sn tu xs an cn r40 (k40 + 1) (upd cp k40 (tu (16 * an + (sn an - 1 - k40)))) else (if xs = 1 then F_X7_made_40 sn tu xs an cn r40 (k40 + 1) (upd cp k40 ((4 - (tu (16 * an + (sn an - 1 - k40)))) - (4 - (tu (16 * an + (sn an - 1 - k40)))) / 4 * 4)) else F_X7_made_40 sn tu xs an cn r40 (k40 + 1) (upd cp k40 (((tu (16 * an + (sn an - 1 - k40))) + 1) - ((tu (16 * an + (sn an - 1 - k40))) + 1) / 4 * 4)))) else (if xs = 0 then F_X7_made_40 sn tu xs an cn r40 (k40 + 1) (upd cp k40 (tu (16 * an + k40))) else (if xs = 1 then F_X7_made_40 sn tu xs an cn r40 (k40 + 1) (upd cp k40 ((4 - (tu (16 * an + k40))) - (4 - (tu (16 * an + k40))) / 4 * 4)) else F_X7_made_40 sn tu xs an cn r40 (k40 + 1) (upd cp k40 (((tu (16 * an + k40)) + 1) - ((tu (16 * an + k40)) + 1) / 4 * 4)))))
def fX7_made (sn : Nat → Nat) (tu : Nat → Int32) (cp : Nat → Int32) (xc : Int32) (xa : Int32) (xs : Int32) : Int32 × (Nat → Nat) × (Nat → Int32) × (Nat → Int32) := (if (fX7_isSign xa) = 0 then ((-101), sn, tu, cp) else (if (fX7_isSign xc) = 0 then ((-101), sn, tu, cp) else (if (fX7_in xs 0 2) = 0 then ((-102), sn, tu, cp) else F_X7_made_40 sn tu xs (xa.toNatClampNeg) (xc.toNatClampNeg) ((sn (xa.toNatClampNeg)) - 0) 0 cp)))
abbrev rmX7_made : Room := { frames := 2, cells := 0, slots := 0, locals := 42 }
set_option maxHeartbeats 4000000 in
set_option maxRecDepth 100000 in
theorem c_X7_made (l : Launch) (D : va_G) (cI : ClassId) (sz : Nat) (h : Nat) (a0 : Nat) (a1 : Nat) (a3 : Nat) (a5 : Nat) (a6 : Nat) (a8 : Nat) (a12 : Nat) (sn : Nat → Nat) (tu : Nat → Int32) (fn : Nat) (we : Nat → Int32) (rn : Nat) (per : Nat → Nat) (rea : Nat → Int32) (wn : Nat) (rw : Nat → Int32) (bs : Nat) (re : Int32) (ot : Int32) (cp : Nat → Int32) (ab : Int64) (be : Int64) (hh : Int64) (xc : Int32) (xa : Int32) (xs : Int32) (hsn : ∀ c, c < 6 → 1 ≤ sn c ∧ sn c ≤ 16) : Met l yX7_made wsX7_made rmX7_made (va_Pc [.ref h, .int xc, .int xa, .int xs] (wrP D [(cI, .int)] [(h, .inr (5, [.ref a0, .ref a1, .int (nI fn), .ref a3, .int (nI rn), .ref a5, .ref a6, .int (nI wn), .ref a8, .int (nI bs), .int re, .int ot, .ref a12, .long ab, .long be, .long hh])), (a0, .inl (cI, 6, .inl (fun i => nI (sn i)))), (a1, .inl (cI, 96, .inl tu)), (a3, .inl (cI, 24, .inl we)), (a5, .inl (cI, 4, .inl (fun i => nI (per i)))), (a6, .inl (cI, 4, .inl rea)), (a8, .inl (cI, 64, .inl rw)), (a12, .inl (cI, 16, .inl cp))] sz)) (va_Qi (fun r9 (_ : Unit) => r9 = (fX7_made sn tu cp xc xa xs).1) (fun _ u9 => va_P D vwCl [(h, .inr (5, [.ref a0, .ref a1, .int (nI fn), .ref a3, .int (nI rn), .ref a5, .ref a6, .int (nI wn), .ref a8, .int (nI bs), .int re, .int ot, .ref a12, .long ab, .long be, .long hh])), (a0, .inl (cI, 6, .inl (fun i => nI (((fX7_made sn tu cp xc xa xs).2.1) i)))), (a1, .inl (cI, 96, .inl ((fX7_made sn tu cp xc xa xs).2.2.1))), (a3, .inl (cI, 24, .inl we)), (a5, .inl (cI, 4, .inl (fun i => nI (per i)))), (a6, .inl (cI, 4, .inl rea)), (a8, .inl (cI, 64, .inl rw)), (a12, .inl (cI, 16, .inl ((fX7_made sn tu cp xc xa xs).2.2.2)))] u9.heap) (va_A [(h, .inr (5, [.ref a0, .ref a1, .int (nI fn), .ref a3, .int (nI rn), .ref a5, .ref a6, .int (nI wn), .ref a8, .int (nI bs), .int re, .int ot, .ref a12, .long ab, .long be, .long hh])), (a0, .inl (cI, 6, .inl (fun i => nI (sn i)))), (a1, .inl (cI, 96, .inl tu)), (a3, .inl (cI, 24, .inl we)), (a5, .inl (cI, 4, .inl (fun i => nI (per i)))), (a6, .inl (cI, 4, .inl rea)), (a8, .inl (cI, 64, .inl rw)), (a12, .inl (cI, 16, .inl cp))] sz)) 0 0 (va_A [(h, .inr (5, [.ref a0, .ref a1, .int (nI fn), .ref a3, .int (nI rn), .ref a5, .ref a6, .int (nI wn), .ref a8, .int (nI bs), .int re, .int ot, .ref a12, .long ab, .long be, .long hh])), (a0, .inl (cI, 6, .inl (fun i => nI (sn i)))), (a1, .inl (cI, 96, .inl tu)), (a3, .inl (cI, 24, .inl we)), (a5, .inl (cI, 4, .inl (fun i => nI (per i)))), (a6, .inl (cI, 4, .inl rea)), (a8, .inl (cI, 64, .inl rw)), (a12, .inl (cI, 16, .inl cp))] sz) := by
  generalize hF : fX7_made sn tu cp xc xa xs = T
  refine Met.ofW (cc := cX7_made) (maxL := 7) (ret := (some .int)) (by decide) rfl ?_
  intro p e s m args below meth c s₁ B hml hv
  obtain ⟨rfl, hsz, hP, hK, hD0⟩ := hv
  have hx := B.exec
  have hb := B.bytes
  have hr := B.returns
  have hts := atoms_spec (ws := wsX7_made) B.pre
  have hown : s.vm.findClass RX7 = some m.cls := findClass_of_methodNamed B.named
  have hlocks := B.notSynchronized
  have hinX7 : ∀ w ∈ u_ws RX7 TX7 16, w ∈ wsX7_made := by decide +kernel
  have hf7 := hts (.fieldLink RX7 7 "PulseSignsModel" "sizes" "[I") (by decide +kernel)
  have hf13 := hts (.fieldLink RX7 13 "PulseSignsModel" "turns" "[I") (by decide +kernel)
  have hf35 := hts (.fieldLink RX7 35 "PulseSignsModel" "copy" "[I") (by decide +kernel)
  subst hsz
  have hD := hD0.self (sz := s.heap.size)
  generalize hAe : va_A [(h, .inr (5, [.ref a0, .ref a1, .int (nI fn), .ref a3, .int (nI rn), .ref a5, .ref a6, .int (nI wn), .ref a8, .int (nI bs), .int re, .int ot, .ref a12, .long ab, .long be, .long hh])), (a0, .inl (cI, 6, .inl (fun i => nI (sn i)))), (a1, .inl (cI, 96, .inl tu)), (a3, .inl (cI, 24, .inl we)), (a5, .inl (cI, 4, .inl (fun i => nI (per i)))), (a6, .inl (cI, 4, .inl rea)), (a8, .inl (cI, 64, .inl rw)), (a12, .inl (cI, 16, .inl cp))] s.heap.size = A at hD ⊢
  have hA : ∀ q : Nat, s.heap.size ≤ q → A q := fun q h => by rw [← hAe]; exact Or.inr h
  have hS : va_S A s.heap s.heap [] := va_S.rf
  have hP : va_P D vwCl [(h, .inr (5, [.ref a0, .ref a1, .int (nI fn), .ref a3, .int (nI rn), .ref a5, .ref a6, .int (nI wn), .ref a8, .int (nI bs), .int re, .int ot, .ref a12, .long ab, .long be, .long hh])), (a0, .inl (cI, 6, .inl (fun i => nI (sn i)))), (a1, .inl (cI, 96, .inl tu)), (a3, .inl (cI, 24, .inl we)), (a5, .inl (cI, 4, .inl (fun i => nI (per i)))), (a6, .inl (cI, 4, .inl rea)), (a8, .inl (cI, 64, .inl rw)), (a12, .inl (cI, 16, .inl cp))] s.heap := hP
  have hl := lv_entry ([.ref h, .int xc, .int xa, .int xs]) (n := 7) (Nat.le_of_ble_eq_true rfl)
  rw [lg_entry_eq]
  generalize (lg_sl ([.ref h, .int xc, .int xa, .int xs]) ++ List.replicate (7 - (lg_sl ([.ref h, .int xc, .int xa, .int xs])).length) Slot.unset).toArray = ls at hl ⊢
  refine w_Q (fun Q hQ => ?_)
  have hl : lv_has ls 7 [(0, .ref h), (1, .int xc), (2, .int xa), (3, .int xs)] := hl
  rw [fX7_made] at hF
  refine lv_iload_n hx hb dX7_made_0 rfl (lv_at hl 2 rfl) ?_
  have hPc := hP.sub (ws' := []) [] rfl
  refine cs_i (va_runS (As := [.int xa]) (rest := []) ⟨hx, hb, hml, hown, hts⟩ (c_X7_isSign l D cI xa ) (va_cwS 1 hts gX7_made_X7_isSign rfl rfl rfl (by decide +kernel) ⟨(Nat.le_of_ble_eq_true rfl), (Nat.le_of_ble_eq_true rfl)⟩) (ro_pre hPc hK) rfl rfl hl.1 rfl (lv_room (Nat.le_of_ble_eq_true rfl)) dX7_made_1 ⟨Nat.zero_le _, Nat.zero_le _⟩) ?_
  refine lv_if_eq (tgt := 14) hx hb dX7_made_4 (by decide) (fun c4 => ?_) (fun c4 => ?_)
  · rw [if_pos c4] at hF
    refine lv_bipush (v := (-101)) hx hb dX7_made_14 (by decide) ?_
    subst hF
    subst hQ
    exact W.iret (v := (-101)) hx hb hr (fun u9 ht hW => ⟨⟨_, (), rfl, rfl, by rw [← ht] at hP; exact hP⟩, hS.F ht⟩) hS.2.2 dX7_made_16
  · rw [if_neg c4] at hF
    obtain ⟨an, han, rfl⟩ := sign_nat c4
    have h16 := hsn an (by omega)
    have e_an : (nI an).toNatClampNeg = an := nI_clamp (by omega)
    try simp only [e_an] at hF
    refine lv_iload_n hx hb dX7_made_7 rfl (lv_at hl 1 rfl) ?_
    have hPc := hP.sub (ws' := []) [] rfl
    refine cs_i (va_runS (As := [.int xc]) (rest := []) ⟨hx, hb, hml, hown, hts⟩ (c_X7_isSign l D cI xc ) (va_cwS 1 hts gX7_made_X7_isSign rfl rfl rfl (by decide +kernel) ⟨(Nat.le_of_ble_eq_true rfl), (Nat.le_of_ble_eq_true rfl)⟩) (ro_pre hPc hK) rfl rfl hl.1 rfl (lv_room (Nat.le_of_ble_eq_true rfl)) dX7_made_8 ⟨Nat.zero_le _, Nat.zero_le _⟩) ?_
    refine lv_if_ne (tgt := 17) hx hb dX7_made_11 (by decide) (fun c11 => ?_) (fun c11 => ?_)
    · rw [if_neg c11] at hF
      obtain ⟨cn, hcn, rfl⟩ := sign_nat c11
      have e_cn : (nI cn).toNatClampNeg = cn := nI_clamp (by omega)
      try simp only [e_cn] at hF
      refine lv_iload_n hx hb dX7_made_17 rfl (lv_at hl 3 rfl) ?_
      refine lv_iconst (v := 0) hx hb dX7_made_18 (by decide) ?_
      refine lv_iconst (v := 2) hx hb dX7_made_19 (by decide) ?_
      have hPc := hP.sub (ws' := []) [] rfl
      refine cs_i (va_runS (As := [.int xs, .int 0, .int 2]) (rest := []) ⟨hx, hb, hml, hown, hts⟩ (c_X7_in l D cI xs 0 2 ) (va_cwS 3 hts gX7_made_X7_in rfl rfl rfl (by decide +kernel) ⟨(Nat.le_of_ble_eq_true rfl), (Nat.le_of_ble_eq_true rfl)⟩) (ro_pre hPc hK) rfl rfl hl.1 rfl (lv_room (Nat.le_of_ble_eq_true rfl)) dX7_made_20 ⟨Nat.zero_le _, Nat.zero_le _⟩) ?_
      refine lv_if_ne (tgt := 29) hx hb dX7_made_23 (by decide) (fun c23 => ?_) (fun c23 => ?_)
      · rw [if_neg c23] at hF
        refine lv_aload_n hx hb dX7_made_29 rfl (lv_at hl 0 rfl) ?_
        refine va_get (D := D) (ci := 5) (v := .ref a0) (C := RX7) (T := TX7) (N := 16) hx hb hts hinX7 hown hK.1 hP 0 rfl rfl 0 (by decide) hf7 (fun _ h9 => h9) rfl dX7_made_30 ?_
        refine lv_iload_n hx hb dX7_made_33 rfl (lv_at hl 2 rfl) ?_
        refine w_ald hx hb hK hP 1 0 rfl rfl (an) rfl (by omega) (by omega) dX7_made_34 ?_
        refine lv_istore (lv' := [(4, .int (nI (sn an))), (0, .ref h), (1, .int (nI cn)), (2, .int (nI an)), (3, .int xs)]) hx hb dX7_made_35 hl (by decide) rfl (fun ls hl => ?_)
        refine lv_iconst (v := 0) hx hb dX7_made_37 (by decide) ?_
        refine lv_istore (lv' := [(5, .int 0), (4, .int (nI (sn an))), (0, .ref h), (1, .int (nI cn)), (2, .int (nI an)), (3, .int xs)]) hx hb dX7_made_38 hl (by decide) rfl (fun ls hl => ?_)
        have lp40 : ∀ (r40 k40 : Nat) (cp : Nat → Int32) (H : Heap) (locs : List Loc) (ls : Array Slot), r40 = (sn an) - k40 → k40 ≤ (sn an) + 1 → va_P D vwCl [(h, .inr (5, [.ref a0, .ref a1, .int (nI fn), .ref a3, .int (nI rn), .ref a5, .ref a6, .int (nI wn), .ref a8, .int (nI bs), .int re, .int ot, .ref a12, .long ab, .long be, .long hh])), (a0, .inl (cI, 6, .inl (fun i => nI (sn i)))), (a1, .inl (cI, 96, .inl tu)), (a3, .inl (cI, 24, .inl we)), (a5, .inl (cI, 4, .inl (fun i => nI (per i)))), (a6, .inl (cI, 4, .inl rea)), (a8, .inl (cI, 64, .inl rw)), (a12, .inl (cI, 16, .inl cp))] H → va_D A [(h, .inr (5, [.ref a0, .ref a1, .int (nI fn), .ref a3, .int (nI rn), .ref a5, .ref a6, .int (nI wn), .ref a8, .int (nI bs), .int re, .int ot, .ref a12, .long ab, .long be, .long hh])), (a0, .inl (cI, 6, .inl (fun i => nI (sn i)))), (a1, .inl (cI, 96, .inl tu)), (a3, .inl (cI, 24, .inl we)), (a5, .inl (cI, 4, .inl (fun i => nI (per i)))), (a6, .inl (cI, 4, .inl rea)), (a8, .inl (cI, 64, .inl rw)), (a12, .inl (cI, 16, .inl cp))] → va_S A s.heap H locs → lv_has ls 7 [(0, .ref h), (1, .int (nI cn)), (2, .int (nI an)), (3, .int xs), (4, .int (nI (sn an))), (5, .int (nI k40))] → F_X7_made_40 sn tu xs an cn r40 k40 cp = T → W p l e (headSpec wsX7_made rmX7_made).room s m ([.ref h, .int (nI cn), .int (nI an), .int xs] : List Value).toArray below meth c H locs 0 0 Q (F0 m 40 ls []) := by
          intro r40
          induction r40 with
          | zero =>
            intro k40 cp H locs ls hi40_0 hi40_1 hP hD hS hl hF
            rw [F_X7_made_40] at hF
            refine lv_iload hx hb dX7_made_40 (lv_at hl 5 rfl) ?_
            refine lv_iload hx hb dX7_made_42 (lv_at hl 4 rfl) ?_
            refine lv_icmp_ge (tgt := 117) hx hb dX7_made_44 (by decide) (fun c44 => ?_) (fun c44 => ?_)
            · skip
              refine lv_aload_n hx hb dX7_made_117 rfl (lv_at hl 0 rfl) ?_
              refine va_get (D := D) (ci := 5) (v := .ref a0) (C := RX7) (T := TX7) (N := 16) hx hb hts hinX7 hown hK.1 hP 0 rfl rfl 0 (by decide) hf7 (fun _ h9 => h9) rfl dX7_made_118 ?_
              refine lv_iload_n hx hb dX7_made_121 rfl (lv_at hl 1 rfl) ?_
              refine lv_iload hx hb dX7_made_122 (lv_at hl 4 rfl) ?_
              refine w_ast hx hb hK hP hD hS 1 0 rfl rfl (cn) rfl (by omega) (by omega) dX7_made_124 (fun H locs hP hD hS => ?_)
              rw [updN_row] at hP hD
              have hP : va_P D vwCl [(h, .inr (5, [.ref a0, .ref a1, .int (nI fn), .ref a3, .int (nI rn), .ref a5, .ref a6, .int (nI wn), .ref a8, .int (nI bs), .int re, .int ot, .ref a12, .long ab, .long be, .long hh])), (a0, .inl (cI, 6, .inl (fun i => nI ((updN sn cn (sn an)) i)))), (a1, .inl (cI, 96, .inl tu)), (a3, .inl (cI, 24, .inl we)), (a5, .inl (cI, 4, .inl (fun i => nI (per i)))), (a6, .inl (cI, 4, .inl rea)), (a8, .inl (cI, 64, .inl rw)), (a12, .inl (cI, 16, .inl cp))] H := hP
              have hD : va_D A [(h, .inr (5, [.ref a0, .ref a1, .int (nI fn), .ref a3, .int (nI rn), .ref a5, .ref a6, .int (nI wn), .ref a8, .int (nI bs), .int re, .int ot, .ref a12, .long ab, .long be, .long hh])), (a0, .inl (cI, 6, .inl (fun i => nI ((updN sn cn (sn an)) i)))), (a1, .inl (cI, 96, .inl tu)), (a3, .inl (cI, 24, .inl we)), (a5, .inl (cI, 4, .inl (fun i => nI (per i)))), (a6, .inl (cI, 4, .inl rea)), (a8, .inl (cI, 64, .inl rw)), (a12, .inl (cI, 16, .inl cp))] := hD
              refine lv_iconst (v := 0) hx hb dX7_made_125 (by decide) ?_
              refine lv_istore (lv' := [(5, .int 0), (0, .ref h), (1, .int (nI cn)), (2, .int (nI an)), (3, .int xs), (4, .int (nI (sn an)))]) hx hb dX7_made_126 hl (by decide) rfl (fun ls hl => ?_)
              have lp128 : ∀ (r128 k128 : Nat) (tu : Nat → Int32) (H : Heap) (locs : List Loc) (ls : Array Slot), r128 = 16 - k128 → k128 ≤ 16 + 1 → va_P D vwCl [(h, .inr (5, [.ref a0, .ref a1, .int (nI fn), .ref a3, .int (nI rn), .ref a5, .ref a6, .int (nI wn), .ref a8, .int (nI bs), .int re, .int ot, .ref a12, .long ab, .long be, .long hh])), (a0, .inl (cI, 6, .inl (fun i => nI ((updN sn cn (sn an)) i)))), (a1, .inl (cI, 96, .inl tu)), (a3, .inl (cI, 24, .inl we)), (a5, .inl (cI, 4, .inl (fun i => nI (per i)))), (a6, .inl (cI, 4, .inl rea)), (a8, .inl (cI, 64, .inl rw)), (a12, .inl (cI, 16, .inl cp))] H → va_D A [(h, .inr (5, [.ref a0, .ref a1, .int (nI fn), .ref a3, .int (nI rn), .ref a5, .ref a6, .int (nI wn), .ref a8, .int (nI bs), .int re, .int ot, .ref a12, .long ab, .long be, .long hh])), (a0, .inl (cI, 6, .inl (fun i => nI ((updN sn cn (sn an)) i)))), (a1, .inl (cI, 96, .inl tu)), (a3, .inl (cI, 24, .inl we)), (a5, .inl (cI, 4, .inl (fun i => nI (per i)))), (a6, .inl (cI, 4, .inl rea)), (a8, .inl (cI, 64, .inl rw)), (a12, .inl (cI, 16, .inl cp))] → va_S A s.heap H locs → lv_has ls 7 [(0, .ref h), (1, .int (nI cn)), (2, .int (nI an)), (3, .int xs), (4, .int (nI (sn an))), (5, .int (nI k128))] → F_X7_made_128 sn cp an cn  r128 k128 tu = T → W p l e (headSpec wsX7_made rmX7_made).room s m ([.ref h, .int (nI cn), .int (nI an), .int xs] : List Value).toArray below meth c H locs 0 0 Q (F0 m 128 ls []) := by
                intro r128
                induction r128 with
                | zero =>
                  intro k128 tu H locs ls hi128_0 hi128_1 hP hD hS hl hF
                  rw [F_X7_made_128] at hF
                  refine lv_iload hx hb dX7_made_128 (lv_at hl 5 rfl) ?_
                  refine lv_bipush (v := 16) hx hb dX7_made_130 (by decide) ?_
                  refine lv_icmp_ge (tgt := 171) hx hb dX7_made_132 (by decide) (fun c132 => ?_) (fun c132 => ?_)
                  · skip
                    refine lv_iload hx hb dX7_made_171 (lv_at hl 4 rfl) ?_
                    subst hF
                    subst hQ
                    exact W.iret (v := nI (sn an)) hx hb hr (fun u9 ht hW => ⟨⟨_, (), rfl, rfl, by rw [← ht] at hP; exact hP⟩, hS.F ht⟩) hS.2.2 dX7_made_173
                  · exact False.elim (c132 (nI_le (a := 16) (b := k128) (by omega) (by omega)))
                | succ r128 ih128 =>
                  intro k128 tu H locs ls hi128_0 hi128_1 hP hD hS hl hF
                  rw [F_X7_made_128] at hF
                  refine lv_iload hx hb dX7_made_128 (lv_at hl 5 rfl) ?_
                  refine lv_bipush (v := 16) hx hb dX7_made_130 (by decide) ?_
                  refine lv_icmp_ge (tgt := 171) hx hb dX7_made_132 (by decide) (fun c132 => ?_) (fun c132 => ?_)
                  · exact False.elim (nI_ge (a := k128) (b := 16) (by omega) (by omega) c132)
                  · skip
                    refine lv_aload_n hx hb dX7_made_135 rfl (lv_at hl 0 rfl) ?_
                    refine va_get (D := D) (ci := 5) (v := .ref a1) (C := RX7) (T := TX7) (N := 16) hx hb hts hinX7 hown hK.1 hP 0 rfl rfl 1 (by decide) hf13 (fun _ h9 => h9) rfl dX7_made_136 ?_
                    refine lv_bipush (v := 16) hx hb dX7_made_139 (by decide) ?_
                    refine lv_iload_n hx hb dX7_made_141 rfl (lv_at hl 1 rfl) ?_
                    refine lv_imul hx hb dX7_made_142 ?_
                    refine lv_iload hx hb dX7_made_143 (lv_at hl 5 rfl) ?_
                    refine lv_iadd hx hb dX7_made_145 ?_
                    refine lv_iload hx hb dX7_made_146 (lv_at hl 5 rfl) ?_
                    refine lv_iload hx hb dX7_made_148 (lv_at hl 4 rfl) ?_
                    refine lv_icmp_ge (tgt := 163) hx hb dX7_made_150 (by decide) (fun c150 => ?_) (fun c150 => ?_)
                    · rw [if_pos c150] at hF
                      refine lv_iconst (v := 0) hx hb dX7_made_163 (by decide) ?_
                      refine w_ast hx hb hK hP hD hS 2 0 rfl rfl (16 * cn + k128) (idx16 _ _) (by omega) (by omega) dX7_made_164 (fun H locs hP hD hS => ?_)
                      have hP : va_P D vwCl [(h, .inr (5, [.ref a0, .ref a1, .int (nI fn), .ref a3, .int (nI rn), .ref a5, .ref a6, .int (nI wn), .ref a8, .int (nI bs), .int re, .int ot, .ref a12, .long ab, .long be, .long hh])), (a0, .inl (cI, 6, .inl (fun i => nI ((updN sn cn (sn an)) i)))), (a1, .inl (cI, 96, .inl (upd tu (16 * cn + k128) 0))), (a3, .inl (cI, 24, .inl we)), (a5, .inl (cI, 4, .inl (fun i => nI (per i)))), (a6, .inl (cI, 4, .inl rea)), (a8, .inl (cI, 64, .inl rw)), (a12, .inl (cI, 16, .inl cp))] H := hP
                      have hD : va_D A [(h, .inr (5, [.ref a0, .ref a1, .int (nI fn), .ref a3, .int (nI rn), .ref a5, .ref a6, .int (nI wn), .ref a8, .int (nI bs), .int re, .int ot, .ref a12, .long ab, .long be, .long hh])), (a0, .inl (cI, 6, .inl (fun i => nI ((updN sn cn (sn an)) i)))), (a1, .inl (cI, 96, .inl (upd tu (16 * cn + k128) 0))), (a3, .inl (cI, 24, .inl we)), (a5, .inl (cI, 4, .inl (fun i => nI (per i)))), (a6, .inl (cI, 4, .inl rea)), (a8, .inl (cI, 64, .inl rw)), (a12, .inl (cI, 16, .inl cp))] := hD
                      refine lv_iinc (v := nI (k128 + 1)) (lv' := [(5, .int (nI (k128 + 1))), (0, .ref h), (1, .int (nI cn)), (2, .int (nI an)), (3, .int xs), (4, .int (nI (sn an)))]) hx hb dX7_made_165 hl (k := 5) rfl (nI_1 _) (by decide) rfl (fun ls hl => ?_)
                      refine lv_goto (tgt := 128) hx hb dX7_made_168 (by decide) ?_
                      exact ih128 (k128 + 1) (upd tu (16 * cn + k128) 0) H locs ls (by omega) (by omega) hP hD hS (lv_sub hl [1, 2, 3, 4, 5, 0] rfl) hF
                    · rw [if_neg c150] at hF
                      refine lv_aload_n hx hb dX7_made_153 rfl (lv_at hl 0 rfl) ?_
                      refine va_get (D := D) (ci := 5) (v := .ref a12) (C := RX7) (T := TX7) (N := 16) hx hb hts hinX7 hown hK.1 hP 0 rfl rfl 12 (by decide) hf35 (fun _ h9 => h9) rfl dX7_made_154 ?_
                      refine lv_iload hx hb dX7_made_157 (lv_at hl 5 rfl) ?_
                      refine w_ald hx hb hK hP 7 0 rfl rfl (k128) rfl (by omega) (by omega) dX7_made_159 ?_
                      refine lv_goto (tgt := 164) hx hb dX7_made_160 (by decide) ?_
                      refine w_ast hx hb hK hP hD hS 2 0 rfl rfl (16 * cn + k128) (idx16 _ _) (by omega) (by omega) dX7_made_164 (fun H locs hP hD hS => ?_)
                      have hP : va_P D vwCl [(h, .inr (5, [.ref a0, .ref a1, .int (nI fn), .ref a3, .int (nI rn), .ref a5, .ref a6, .int (nI wn), .ref a8, .int (nI bs), .int re, .int ot, .ref a12, .long ab, .long be, .long hh])), (a0, .inl (cI, 6, .inl (fun i => nI ((updN sn cn (sn an)) i)))), (a1, .inl (cI, 96, .inl (upd tu (16 * cn + k128) (cp k128)))), (a3, .inl (cI, 24, .inl we)), (a5, .inl (cI, 4, .inl (fun i => nI (per i)))), (a6, .inl (cI, 4, .inl rea)), (a8, .inl (cI, 64, .inl rw)), (a12, .inl (cI, 16, .inl cp))] H := hP
                      have hD : va_D A [(h, .inr (5, [.ref a0, .ref a1, .int (nI fn), .ref a3, .int (nI rn), .ref a5, .ref a6, .int (nI wn), .ref a8, .int (nI bs), .int re, .int ot, .ref a12, .long ab, .long be, .long hh])), (a0, .inl (cI, 6, .inl (fun i => nI ((updN sn cn (sn an)) i)))), (a1, .inl (cI, 96, .inl (upd tu (16 * cn + k128) (cp k128)))), (a3, .inl (cI, 24, .inl we)), (a5, .inl (cI, 4, .inl (fun i => nI (per i)))), (a6, .inl (cI, 4, .inl rea)), (a8, .inl (cI, 64, .inl rw)), (a12, .inl (cI, 16, .inl cp))] := hD
                      refine lv_iinc (v := nI (k128 + 1)) (lv' := [(5, .int (nI (k128 + 1))), (0, .ref h), (1, .int (nI cn)), (2, .int (nI an)), (3, .int xs), (4, .int (nI (sn an)))]) hx hb dX7_made_165 hl (k := 5) rfl (nI_1 _) (by decide) rfl (fun ls hl => ?_)
                      refine lv_goto (tgt := 128) hx hb dX7_made_168 (by decide) ?_
                      exact ih128 (k128 + 1) (upd tu (16 * cn + k128) (cp k128)) H locs ls (by omega) (by omega) hP hD hS (lv_sub hl [1, 2, 3, 4, 5, 0] rfl) hF
              exact lp128 (16 - 0) 0 tu H _ ls rfl (by omega) hP hD hS (lv_sub hl [1, 2, 3, 4, 5, 0] rfl) hF
            · exact False.elim (c44 (nI_le (a := (sn an)) (b := k40) (by omega) (by omega)))
          | succ r40 ih40 =>
            intro k40 cp H locs ls hi40_0 hi40_1 hP hD hS hl hF
            rw [F_X7_made_40] at hF
            refine lv_iload hx hb dX7_made_40 (lv_at hl 5 rfl) ?_
            refine lv_iload hx hb dX7_made_42 (lv_at hl 4 rfl) ?_
            refine lv_icmp_ge (tgt := 117) hx hb dX7_made_44 (by decide) (fun c44 => ?_) (fun c44 => ?_)
            · exact False.elim (nI_ge (a := k40) (b := (sn an)) (by omega) (by omega) c44)
            · skip
              refine lv_aload_n hx hb dX7_made_47 rfl (lv_at hl 0 rfl) ?_
              refine va_get (D := D) (ci := 5) (v := .ref a1) (C := RX7) (T := TX7) (N := 16) hx hb hts hinX7 hown hK.1 hP 0 rfl rfl 1 (by decide) hf13 (fun _ h9 => h9) rfl dX7_made_48 ?_
              refine lv_bipush (v := 16) hx hb dX7_made_51 (by decide) ?_
              refine lv_iload_n hx hb dX7_made_53 rfl (lv_at hl 2 rfl) ?_
              refine lv_imul hx hb dX7_made_54 ?_
              refine lv_iload_n hx hb dX7_made_55 rfl (lv_at hl 3 rfl) ?_
              refine lv_if_ne (tgt := 69) hx hb dX7_made_56 (by decide) (fun c56 => ?_) (fun c56 => ?_)
              · rw [if_neg c56] at hF
                refine lv_iload hx hb dX7_made_69 (lv_at hl 5 rfl) ?_
                refine lv_iadd hx hb dX7_made_71 ?_
                refine w_ald hx hb hK hP 2 0 rfl rfl (16 * an + k40) (idx16 _ _) (by omega) (by omega) dX7_made_72 ?_
                refine lv_istore (lv' := [(6, .int (tu (16 * an + k40))), (0, .ref h), (1, .int (nI cn)), (2, .int (nI an)), (3, .int xs), (4, .int (nI (sn an))), (5, .int (nI k40))]) hx hb dX7_made_73 hl (by decide) rfl (fun ls hl => ?_)
                refine lv_aload_n hx hb dX7_made_75 rfl (lv_at hl 1 rfl) ?_
                refine va_get (D := D) (ci := 5) (v := .ref a12) (C := RX7) (T := TX7) (N := 16) hx hb hts hinX7 hown hK.1 hP 0 rfl rfl 12 (by decide) hf35 (fun _ h9 => h9) rfl dX7_made_76 ?_
                refine lv_iload hx hb dX7_made_79 (lv_at hl 6 rfl) ?_
                refine lv_iload_n hx hb dX7_made_81 rfl (lv_at hl 4 rfl) ?_
                refine lv_if_ne (tgt := 90) hx hb dX7_made_82 (by decide) (fun c82 => ?_) (fun c82 => ?_)
                · rw [if_neg c82] at hF
                  refine lv_iload_n hx hb dX7_made_90 rfl (lv_at hl 4 rfl) ?_
                  refine lv_iconst (v := 1) hx hb dX7_made_91 (by decide) ?_
                  refine lv_icmp_ne (tgt := 104) hx hb dX7_made_92 (by decide) (fun c92 => ?_) (fun c92 => ?_)
                  · rw [if_neg c92] at hF
                    refine lv_iload hx hb dX7_made_104 (lv_at hl 0 rfl) ?_
                    refine lv_iconst (v := 1) hx hb dX7_made_106 (by decide) ?_
                    refine lv_iadd hx hb dX7_made_107 ?_
                    refine lv_iconst (v := 4) hx hb dX7_made_108 (by decide) ?_
                    refine lv_irem hx hb dX7_made_109 (by decide) ?_
                    refine w_ast hx hb hK hP hD hS 7 0 rfl rfl (k40) rfl (by omega) (by omega) dX7_made_110 (fun H locs hP hD hS => ?_)
                    have hP : va_P D vwCl [(h, .inr (5, [.ref a0, .ref a1, .int (nI fn), .ref a3, .int (nI rn), .ref a5, .ref a6, .int (nI wn), .ref a8, .int (nI bs), .int re, .int ot, .ref a12, .long ab, .long be, .long hh])), (a0, .inl (cI, 6, .inl (fun i => nI (sn i)))), (a1, .inl (cI, 96, .inl tu)), (a3, .inl (cI, 24, .inl we)), (a5, .inl (cI, 4, .inl (fun i => nI (per i)))), (a6, .inl (cI, 4, .inl rea)), (a8, .inl (cI, 64, .inl rw)), (a12, .inl (cI, 16, .inl (upd cp k40 (((tu (16 * an + k40)) + 1) - ((tu (16 * an + k40)) + 1) / 4 * 4))))] H := hP
                    have hD : va_D A [(h, .inr (5, [.ref a0, .ref a1, .int (nI fn), .ref a3, .int (nI rn), .ref a5, .ref a6, .int (nI wn), .ref a8, .int (nI bs), .int re, .int ot, .ref a12, .long ab, .long be, .long hh])), (a0, .inl (cI, 6, .inl (fun i => nI (sn i)))), (a1, .inl (cI, 96, .inl tu)), (a3, .inl (cI, 24, .inl we)), (a5, .inl (cI, 4, .inl (fun i => nI (per i)))), (a6, .inl (cI, 4, .inl rea)), (a8, .inl (cI, 64, .inl rw)), (a12, .inl (cI, 16, .inl (upd cp k40 (((tu (16 * an + k40)) + 1) - ((tu (16 * an + k40)) + 1) / 4 * 4))))] := hD
                    refine lv_iinc (v := nI (k40 + 1)) (lv' := [(5, .int (nI (k40 + 1))), (6, .int (tu (16 * an + k40))), (0, .ref h), (1, .int (nI cn)), (2, .int (nI an)), (3, .int xs), (4, .int (nI (sn an)))]) hx hb dX7_made_111 hl (k := 6) rfl (nI_1 _) (by decide) rfl (fun ls hl => ?_)
                    refine lv_goto (tgt := 40) hx hb dX7_made_114 (by decide) ?_
                    exact ih40 (k40 + 1) (upd cp k40 (((tu (16 * an + k40)) + 1) - ((tu (16 * an + k40)) + 1) / 4 * 4)) H locs ls (by omega) (by omega) hP hD hS (lv_sub hl [2, 3, 4, 5, 6, 0] rfl) hF
                  · rw [if_pos c92] at hF
                    refine lv_iconst (v := 4) hx hb dX7_made_95 (by decide) ?_
                    refine lv_iload hx hb dX7_made_96 (lv_at hl 0 rfl) ?_
                    refine lv_isub hx hb dX7_made_98 ?_
                    refine lv_iconst (v := 4) hx hb dX7_made_99 (by decide) ?_
                    refine lv_irem hx hb dX7_made_100 (by decide) ?_
                    refine lv_goto (tgt := 110) hx hb dX7_made_101 (by decide) ?_
                    refine w_ast hx hb hK hP hD hS 7 0 rfl rfl (k40) rfl (by omega) (by omega) dX7_made_110 (fun H locs hP hD hS => ?_)
                    have hP : va_P D vwCl [(h, .inr (5, [.ref a0, .ref a1, .int (nI fn), .ref a3, .int (nI rn), .ref a5, .ref a6, .int (nI wn), .ref a8, .int (nI bs), .int re, .int ot, .ref a12, .long ab, .long be, .long hh])), (a0, .inl (cI, 6, .inl (fun i => nI (sn i)))), (a1, .inl (cI, 96, .inl tu)), (a3, .inl (cI, 24, .inl we)), (a5, .inl (cI, 4, .inl (fun i => nI (per i)))), (a6, .inl (cI, 4, .inl rea)), (a8, .inl (cI, 64, .inl rw)), (a12, .inl (cI, 16, .inl (upd cp k40 ((4 - (tu (16 * an + k40))) - (4 - (tu (16 * an + k40))) / 4 * 4))))] H := hP
                    have hD : va_D A [(h, .inr (5, [.ref a0, .ref a1, .int (nI fn), .ref a3, .int (nI rn), .ref a5, .ref a6, .int (nI wn), .ref a8, .int (nI bs), .int re, .int ot, .ref a12, .long ab, .long be, .long hh])), (a0, .inl (cI, 6, .inl (fun i => nI (sn i)))), (a1, .inl (cI, 96, .inl tu)), (a3, .inl (cI, 24, .inl we)), (a5, .inl (cI, 4, .inl (fun i => nI (per i)))), (a6, .inl (cI, 4, .inl rea)), (a8, .inl (cI, 64, .inl rw)), (a12, .inl (cI, 16, .inl (upd cp k40 ((4 - (tu (16 * an + k40))) - (4 - (tu (16 * an + k40))) / 4 * 4))))] := hD
                    refine lv_iinc (v := nI (k40 + 1)) (lv' := [(5, .int (nI (k40 + 1))), (6, .int (tu (16 * an + k40))), (0, .ref h), (1, .int (nI cn)), (2, .int (nI an)), (3, .int xs), (4, .int (nI (sn an)))]) hx hb dX7_made_111 hl (k := 6) rfl (nI_1 _) (by decide) rfl (fun ls hl => ?_)
                    refine lv_goto (tgt := 40) hx hb dX7_made_114 (by decide) ?_
                    exact ih40 (k40 + 1) (upd cp k40 ((4 - (tu (16 * an + k40))) - (4 - (tu (16 * an + k40))) / 4 * 4)) H locs ls (by omega) (by omega) hP hD hS (lv_sub hl [2, 3, 4, 5, 6, 0] rfl) hF
                · rw [if_pos c82] at hF
                  refine lv_iload hx hb dX7_made_85 (lv_at hl 0 rfl) ?_
                  refine lv_goto (tgt := 110) hx hb dX7_made_87 (by decide) ?_
                  refine w_ast hx hb hK hP hD hS 7 0 rfl rfl (k40) rfl (by omega) (by omega) dX7_made_110 (fun H locs hP hD hS => ?_)
                  have hP : va_P D vwCl [(h, .inr (5, [.ref a0, .ref a1, .int (nI fn), .ref a3, .int (nI rn), .ref a5, .ref a6, .int (nI wn), .ref a8, .int (nI bs), .int re, .int ot, .ref a12, .long ab, .long be, .long hh])), (a0, .inl (cI, 6, .inl (fun i => nI (sn i)))), (a1, .inl (cI, 96, .inl tu)), (a3, .inl (cI, 24, .inl we)), (a5, .inl (cI, 4, .inl (fun i => nI (per i)))), (a6, .inl (cI, 4, .inl rea)), (a8, .inl (cI, 64, .inl rw)), (a12, .inl (cI, 16, .inl (upd cp k40 (tu (16 * an + k40)))))] H := hP
                  have hD : va_D A [(h, .inr (5, [.ref a0, .ref a1, .int (nI fn), .ref a3, .int (nI rn), .ref a5, .ref a6, .int (nI wn), .ref a8, .int (nI bs), .int re, .int ot, .ref a12, .long ab, .long be, .long hh])), (a0, .inl (cI, 6, .inl (fun i => nI (sn i)))), (a1, .inl (cI, 96, .inl tu)), (a3, .inl (cI, 24, .inl we)), (a5, .inl (cI, 4, .inl (fun i => nI (per i)))), (a6, .inl (cI, 4, .inl rea)), (a8, .inl (cI, 64, .inl rw)), (a12, .inl (cI, 16, .inl (upd cp k40 (tu (16 * an + k40)))))] := hD
                  refine lv_iinc (v := nI (k40 + 1)) (lv' := [(5, .int (nI (k40 + 1))), (6, .int (tu (16 * an + k40))), (0, .ref h), (1, .int (nI cn)), (2, .int (nI an)), (3, .int xs), (4, .int (nI (sn an)))]) hx hb dX7_made_111 hl (k := 6) rfl (nI_1 _) (by decide) rfl (fun ls hl => ?_)
                  refine lv_goto (tgt := 40) hx hb dX7_made_114 (by decide) ?_
                  exact ih40 (k40 + 1) (upd cp k40 (tu (16 * an + k40))) H locs ls (by omega) (by omega) hP hD hS (lv_sub hl [2, 3, 4, 5, 6, 0] rfl) hF
              · rw [if_pos c56] at hF
                refine lv_iload hx hb dX7_made_59 (lv_at hl 4 rfl) ?_
                refine lv_iconst (v := 1) hx hb dX7_made_61 (by decide) ?_
                refine lv_isub hx hb dX7_made_62 ?_
                refine lv_iload hx hb dX7_made_63 (lv_at hl 5 rfl) ?_
                refine lv_isub hx hb dX7_made_65 ?_
                refine lv_goto (tgt := 71) hx hb dX7_made_66 (by decide) ?_
                refine lv_iadd hx hb dX7_made_71 ?_
                refine w_ald hx hb hK hP 2 0 rfl rfl (16 * an + (sn an - 1 - k40)) (by rw [nI_sub1k (by omega), idx16]) (by omega) (by omega) dX7_made_72 ?_
                refine lv_istore (lv' := [(6, .int (tu (16 * an + (sn an - 1 - k40)))), (0, .ref h), (1, .int (nI cn)), (2, .int (nI an)), (3, .int xs), (4, .int (nI (sn an))), (5, .int (nI k40))]) hx hb dX7_made_73 hl (by decide) rfl (fun ls hl => ?_)
                refine lv_aload_n hx hb dX7_made_75 rfl (lv_at hl 1 rfl) ?_
                refine va_get (D := D) (ci := 5) (v := .ref a12) (C := RX7) (T := TX7) (N := 16) hx hb hts hinX7 hown hK.1 hP 0 rfl rfl 12 (by decide) hf35 (fun _ h9 => h9) rfl dX7_made_76 ?_
                refine lv_iload hx hb dX7_made_79 (lv_at hl 6 rfl) ?_
                refine lv_iload_n hx hb dX7_made_81 rfl (lv_at hl 4 rfl) ?_
                refine lv_if_ne (tgt := 90) hx hb dX7_made_82 (by decide) (fun c82 => ?_) (fun c82 => ?_)
                · rw [if_neg c82] at hF
                  refine lv_iload_n hx hb dX7_made_90 rfl (lv_at hl 4 rfl) ?_
                  refine lv_iconst (v := 1) hx hb dX7_made_91 (by decide) ?_
                  refine lv_icmp_ne (tgt := 104) hx hb dX7_made_92 (by decide) (fun c92 => ?_) (fun c92 => ?_)
                  · rw [if_neg c92] at hF
                    refine lv_iload hx hb dX7_made_104 (lv_at hl 0 rfl) ?_
                    refine lv_iconst (v := 1) hx hb dX7_made_106 (by decide) ?_
                    refine lv_iadd hx hb dX7_made_107 ?_
                    refine lv_iconst (v := 4) hx hb dX7_made_108 (by decide) ?_
                    refine lv_irem hx hb dX7_made_109 (by decide) ?_
                    refine w_ast hx hb hK hP hD hS 7 0 rfl rfl (k40) rfl (by omega) (by omega) dX7_made_110 (fun H locs hP hD hS => ?_)
                    have hP : va_P D vwCl [(h, .inr (5, [.ref a0, .ref a1, .int (nI fn), .ref a3, .int (nI rn), .ref a5, .ref a6, .int (nI wn), .ref a8, .int (nI bs), .int re, .int ot, .ref a12, .long ab, .long be, .long hh])), (a0, .inl (cI, 6, .inl (fun i => nI (sn i)))), (a1, .inl (cI, 96, .inl tu)), (a3, .inl (cI, 24, .inl we)), (a5, .inl (cI, 4, .inl (fun i => nI (per i)))), (a6, .inl (cI, 4, .inl rea)), (a8, .inl (cI, 64, .inl rw)), (a12, .inl (cI, 16, .inl (upd cp k40 (((tu (16 * an + (sn an - 1 - k40))) + 1) - ((tu (16 * an + (sn an - 1 - k40))) + 1) / 4 * 4))))] H := hP
                    have hD : va_D A [(h, .inr (5, [.ref a0, .ref a1, .int (nI fn), .ref a3, .int (nI rn), .ref a5, .ref a6, .int (nI wn), .ref a8, .int (nI bs), .int re, .int ot, .ref a12, .long ab, .long be, .long hh])), (a0, .inl (cI, 6, .inl (fun i => nI (sn i)))), (a1, .inl (cI, 96, .inl tu)), (a3, .inl (cI, 24, .inl we)), (a5, .inl (cI, 4, .inl (fun i => nI (per i)))), (a6, .inl (cI, 4, .inl rea)), (a8, .inl (cI, 64, .inl rw)), (a12, .inl (cI, 16, .inl (upd cp k40 (((tu (16 * an + (sn an - 1 - k40))) + 1) - ((tu (16 * an + (sn an - 1 - k40))) + 1) / 4 * 4))))] := hD
                    refine lv_iinc (v := nI (k40 + 1)) (lv' := [(5, .int (nI (k40 + 1))), (6, .int (tu (16 * an + (sn an - 1 - k40)))), (0, .ref h), (1, .int (nI cn)), (2, .int (nI an)), (3, .int xs), (4, .int (nI (sn an)))]) hx hb dX7_made_111 hl (k := 6) rfl (nI_1 _) (by decide) rfl (fun ls hl => ?_)
                    refine lv_goto (tgt := 40) hx hb dX7_made_114 (by decide) ?_
                    exact ih40 (k40 + 1) (upd cp k40 (((tu (16 * an + (sn an - 1 - k40))) + 1) - ((tu (16 * an + (sn an - 1 - k40))) + 1) / 4 * 4)) H locs ls (by omega) (by omega) hP hD hS (lv_sub hl [2, 3, 4, 5, 6, 0] rfl) hF
                  · rw [if_pos c92] at hF
                    refine lv_iconst (v := 4) hx hb dX7_made_95 (by decide) ?_
                    refine lv_iload hx hb dX7_made_96 (lv_at hl 0 rfl) ?_
                    refine lv_isub hx hb dX7_made_98 ?_
                    refine lv_iconst (v := 4) hx hb dX7_made_99 (by decide) ?_
                    refine lv_irem hx hb dX7_made_100 (by decide) ?_
                    refine lv_goto (tgt := 110) hx hb dX7_made_101 (by decide) ?_
                    refine w_ast hx hb hK hP hD hS 7 0 rfl rfl (k40) rfl (by omega) (by omega) dX7_made_110 (fun H locs hP hD hS => ?_)
                    have hP : va_P D vwCl [(h, .inr (5, [.ref a0, .ref a1, .int (nI fn), .ref a3, .int (nI rn), .ref a5, .ref a6, .int (nI wn), .ref a8, .int (nI bs), .int re, .int ot, .ref a12, .long ab, .long be, .long hh])), (a0, .inl (cI, 6, .inl (fun i => nI (sn i)))), (a1, .inl (cI, 96, .inl tu)), (a3, .inl (cI, 24, .inl we)), (a5, .inl (cI, 4, .inl (fun i => nI (per i)))), (a6, .inl (cI, 4, .inl rea)), (a8, .inl (cI, 64, .inl rw)), (a12, .inl (cI, 16, .inl (upd cp k40 ((4 - (tu (16 * an + (sn an - 1 - k40)))) - (4 - (tu (16 * an + (sn an - 1 - k40)))) / 4 * 4))))] H := hP
                    have hD : va_D A [(h, .inr (5, [.ref a0, .ref a1, .int (nI fn), .ref a3, .int (nI rn), .ref a5, .ref a6, .int (nI wn), .ref a8, .int (nI bs), .int re, .int ot, .ref a12, .long ab, .long be, .long hh])), (a0, .inl (cI, 6, .inl (fun i => nI (sn i)))), (a1, .inl (cI, 96, .inl tu)), (a3, .inl (cI, 24, .inl we)), (a5, .inl (cI, 4, .inl (fun i => nI (per i)))), (a6, .inl (cI, 4, .inl rea)), (a8, .inl (cI, 64, .inl rw)), (a12, .inl (cI, 16, .inl (upd cp k40 ((4 - (tu (16 * an + (sn an - 1 - k40)))) - (4 - (tu (16 * an + (sn an - 1 - k40)))) / 4 * 4))))] := hD
                    refine lv_iinc (v := nI (k40 + 1)) (lv' := [(5, .int (nI (k40 + 1))), (6, .int (tu (16 * an + (sn an - 1 - k40)))), (0, .ref h), (1, .int (nI cn)), (2, .int (nI an)), (3, .int xs), (4, .int (nI (sn an)))]) hx hb dX7_made_111 hl (k := 6) rfl (nI_1 _) (by decide) rfl (fun ls hl => ?_)
                    refine lv_goto (tgt := 40) hx hb dX7_made_114 (by decide) ?_
                    exact ih40 (k40 + 1) (upd cp k40 ((4 - (tu (16 * an + (sn an - 1 - k40)))) - (4 - (tu (16 * an + (sn an - 1 - k40)))) / 4 * 4)) H locs ls (by omega) (by omega) hP hD hS (lv_sub hl [2, 3, 4, 5, 6, 0] rfl) hF
                · rw [if_pos c82] at hF
                  refine lv_iload hx hb dX7_made_85 (lv_at hl 0 rfl) ?_
                  refine lv_goto (tgt := 110) hx hb dX7_made_87 (by decide) ?_
                  refine w_ast hx hb hK hP hD hS 7 0 rfl rfl (k40) rfl (by omega) (by omega) dX7_made_110 (fun H locs hP hD hS => ?_)
                  have hP : va_P D vwCl [(h, .inr (5, [.ref a0, .ref a1, .int (nI fn), .ref a3, .int (nI rn), .ref a5, .ref a6, .int (nI wn), .ref a8, .int (nI bs), .int re, .int ot, .ref a12, .long ab, .long be, .long hh])), (a0, .inl (cI, 6, .inl (fun i => nI (sn i)))), (a1, .inl (cI, 96, .inl tu)), (a3, .inl (cI, 24, .inl we)), (a5, .inl (cI, 4, .inl (fun i => nI (per i)))), (a6, .inl (cI, 4, .inl rea)), (a8, .inl (cI, 64, .inl rw)), (a12, .inl (cI, 16, .inl (upd cp k40 (tu (16 * an + (sn an - 1 - k40))))))] H := hP
                  have hD : va_D A [(h, .inr (5, [.ref a0, .ref a1, .int (nI fn), .ref a3, .int (nI rn), .ref a5, .ref a6, .int (nI wn), .ref a8, .int (nI bs), .int re, .int ot, .ref a12, .long ab, .long be, .long hh])), (a0, .inl (cI, 6, .inl (fun i => nI (sn i)))), (a1, .inl (cI, 96, .inl tu)), (a3, .inl (cI, 24, .inl we)), (a5, .inl (cI, 4, .inl (fun i => nI (per i)))), (a6, .inl (cI, 4, .inl rea)), (a8, .inl (cI, 64, .inl rw)), (a12, .inl (cI, 16, .inl (upd cp k40 (tu (16 * an + (sn an - 1 - k40))))))] := hD
                  refine lv_iinc (v := nI (k40 + 1)) (lv' := [(5, .int (nI (k40 + 1))), (6, .int (tu (16 * an + (sn an - 1 - k40)))), (0, .ref h), (1, .int (nI cn)), (2, .int (nI an)), (3, .int xs), (4, .int (nI (sn an)))]) hx hb dX7_made_111 hl (k := 6) rfl (nI_1 _) (by decide) rfl (fun ls hl => ?_)
                  refine lv_goto (tgt := 40) hx hb dX7_made_114 (by decide) ?_
                  exact ih40 (k40 + 1) (upd cp k40 (tu (16 * an + (sn an - 1 - k40)))) H locs ls (by omega) (by omega) hP hD hS (lv_sub hl [2, 3, 4, 5, 6, 0] rfl) hF
        exact lp40 ((sn an) - 0) 0 cp s.heap _ ls rfl (by omega) hP hD hS (lv_sub hl [2, 3, 4, 5, 1, 0] rfl) hF
      · rw [if_pos c23] at hF
        refine lv_bipush (v := (-102)) hx hb dX7_made_26 (by decide) ?_
        subst hF
        subst hQ
        exact W.iret (v := (-102)) hx hb hr (fun u9 ht hW => ⟨⟨_, (), rfl, rfl, by rw [← ht] at hP; exact hP⟩, hS.F ht⟩) hS.2.2 dX7_made_28
    · rw [if_pos c11] at hF
      refine lv_bipush (v := (-101)) hx hb dX7_made_14 (by decide) ?_
      subst hF
      subst hQ
      exact W.iret (v := (-101)) hx hb hr (fun u9 ht hW => ⟨⟨_, (), rfl, rfl, by rw [← ht] at hP; exact hP⟩, hS.F ht⟩) hS.2.2 dX7_made_16
def fX7_add (re : Int32) (ot : Int32) (q : Int32) (ti : Int32) : Int32 × Int32 := (if q = 0 then (if q = 1 then (re + ti, ot + ti) else (if q = 3 then (re + ti, ot + (-ti)) else (re + ti, ot + 0))) else (if q = 2 then (if q = 1 then (re + (-ti), ot + ti) else (if q = 3 then (re + (-ti), ot + (-ti)) else (re + (-ti), ot + 0))) else (if q = 1 then (re + 0, ot + ti) else (if q = 3 then (re + 0, ot + (-ti)) else (re + 0, ot + 0)))))
abbrev rmX7_add : Room := { frames := 0, cells := 0, slots := 0, locals := 0 }
set_option maxHeartbeats 4000000 in
set_option maxRecDepth 100000 in
theorem c_X7_add (l : Launch) (D : va_G) (cI : ClassId) (sz : Nat) (h : Nat) (a0 : Nat) (a1 : Nat) (a3 : Nat) (a5 : Nat) (a6 : Nat) (a8 : Nat) (a12 : Nat) (sn : Nat → Nat) (tu : Nat → Int32) (fn : Nat) (we : Nat → Int32) (rn : Nat) (per : Nat → Nat) (rea : Nat → Int32) (wn : Nat) (rw : Nat → Int32) (bs : Nat) (re : Int32) (ot : Int32) (cp : Nat → Int32) (ab : Int64) (be : Int64) (hh : Int64) (q : Int32) (ti : Int32)  : Met l yX7_add wsX7_add rmX7_add (va_Pc [.ref h, .int q, .int ti] (wrP D [(cI, .int)] [(h, .inr (5, [.ref a0, .ref a1, .int (nI fn), .ref a3, .int (nI rn), .ref a5, .ref a6, .int (nI wn), .ref a8, .int (nI bs), .int re, .int ot, .ref a12, .long ab, .long be, .long hh])), (a0, .inl (cI, 6, .inl (fun i => nI (sn i)))), (a1, .inl (cI, 96, .inl tu)), (a3, .inl (cI, 24, .inl we)), (a5, .inl (cI, 4, .inl (fun i => nI (per i)))), (a6, .inl (cI, 4, .inl rea)), (a8, .inl (cI, 64, .inl rw)), (a12, .inl (cI, 16, .inl cp))] sz)) (va_Qv (fun (_ : Unit) => True) (fun _ u9 => va_P D vwCl [(h, .inr (5, [.ref a0, .ref a1, .int (nI fn), .ref a3, .int (nI rn), .ref a5, .ref a6, .int (nI wn), .ref a8, .int (nI bs), .int ((fX7_add re ot q ti).1), .int ((fX7_add re ot q ti).2), .ref a12, .long ab, .long be, .long hh])), (a0, .inl (cI, 6, .inl (fun i => nI (sn i)))), (a1, .inl (cI, 96, .inl tu)), (a3, .inl (cI, 24, .inl we)), (a5, .inl (cI, 4, .inl (fun i => nI (per i)))), (a6, .inl (cI, 4, .inl rea)), (a8, .inl (cI, 64, .inl rw)), (a12, .inl (cI, 16, .inl cp))] u9.heap) (va_A [(h, .inr (5, [.ref a0, .ref a1, .int (nI fn), .ref a3, .int (nI rn), .ref a5, .ref a6, .int (nI wn), .ref a8, .int (nI bs), .int re, .int ot, .ref a12, .long ab, .long be, .long hh])), (a0, .inl (cI, 6, .inl (fun i => nI (sn i)))), (a1, .inl (cI, 96, .inl tu)), (a3, .inl (cI, 24, .inl we)), (a5, .inl (cI, 4, .inl (fun i => nI (per i)))), (a6, .inl (cI, 4, .inl rea)), (a8, .inl (cI, 64, .inl rw)), (a12, .inl (cI, 16, .inl cp))] sz)) 0 0 (va_A [(h, .inr (5, [.ref a0, .ref a1, .int (nI fn), .ref a3, .int (nI rn), .ref a5, .ref a6, .int (nI wn), .ref a8, .int (nI bs), .int re, .int ot, .ref a12, .long ab, .long be, .long hh])), (a0, .inl (cI, 6, .inl (fun i => nI (sn i)))), (a1, .inl (cI, 96, .inl tu)), (a3, .inl (cI, 24, .inl we)), (a5, .inl (cI, 4, .inl (fun i => nI (per i)))), (a6, .inl (cI, 4, .inl rea)), (a8, .inl (cI, 64, .inl rw)), (a12, .inl (cI, 16, .inl cp))] sz) := by
  generalize hF : fX7_add re ot q ti = T
  refine Met.ofW (cc := cX7_add) (maxL := 3) (ret := none) (by decide) rfl ?_
  intro p e s m args below meth c s₁ B hml hv
  obtain ⟨rfl, hsz, hP, hK, hD0⟩ := hv
  have hx := B.exec
  have hb := B.bytes
  have hr := B.returns
  have hts := atoms_spec (ws := wsX7_add) B.pre
  have hown : s.vm.findClass RX7 = some m.cls := findClass_of_methodNamed B.named
  have hlocks := B.notSynchronized
  have hinX7 : ∀ w ∈ u_ws RX7 TX7 16, w ∈ wsX7_add := by decide +kernel
  have hf46 := hts (.fieldLink RX7 46 "PulseSignsModel" "real" "I") (by decide +kernel)
  have hf49 := hts (.fieldLink RX7 49 "PulseSignsModel" "other" "I") (by decide +kernel)
  subst hsz
  have hD := hD0.self (sz := s.heap.size)
  generalize hAe : va_A [(h, .inr (5, [.ref a0, .ref a1, .int (nI fn), .ref a3, .int (nI rn), .ref a5, .ref a6, .int (nI wn), .ref a8, .int (nI bs), .int re, .int ot, .ref a12, .long ab, .long be, .long hh])), (a0, .inl (cI, 6, .inl (fun i => nI (sn i)))), (a1, .inl (cI, 96, .inl tu)), (a3, .inl (cI, 24, .inl we)), (a5, .inl (cI, 4, .inl (fun i => nI (per i)))), (a6, .inl (cI, 4, .inl rea)), (a8, .inl (cI, 64, .inl rw)), (a12, .inl (cI, 16, .inl cp))] s.heap.size = A at hD ⊢
  have hA : ∀ q : Nat, s.heap.size ≤ q → A q := fun q h => by rw [← hAe]; exact Or.inr h
  have hS : va_S A s.heap s.heap [] := va_S.rf
  have hP : va_P D vwCl [(h, .inr (5, [.ref a0, .ref a1, .int (nI fn), .ref a3, .int (nI rn), .ref a5, .ref a6, .int (nI wn), .ref a8, .int (nI bs), .int re, .int ot, .ref a12, .long ab, .long be, .long hh])), (a0, .inl (cI, 6, .inl (fun i => nI (sn i)))), (a1, .inl (cI, 96, .inl tu)), (a3, .inl (cI, 24, .inl we)), (a5, .inl (cI, 4, .inl (fun i => nI (per i)))), (a6, .inl (cI, 4, .inl rea)), (a8, .inl (cI, 64, .inl rw)), (a12, .inl (cI, 16, .inl cp))] s.heap := hP
  have hl := lv_entry ([.ref h, .int q, .int ti]) (n := 3) (Nat.le_of_ble_eq_true rfl)
  rw [lg_entry_eq]
  generalize (lg_sl ([.ref h, .int q, .int ti]) ++ List.replicate (3 - (lg_sl ([.ref h, .int q, .int ti])).length) Slot.unset).toArray = ls at hl ⊢
  refine w_Q (fun Q hQ => ?_)
  have hl : lv_has ls 3 [(0, .ref h), (1, .int q), (2, .int ti)] := hl
  rw [fX7_add] at hF
  refine lv_aload_n hx hb dX7_add_0 rfl (lv_at hl 0 rfl) ?_
  refine lv_dup hx hb dX7_add_1 rfl ?_
  refine va_get (D := D) (ci := 5) (v := .int re) (C := RX7) (T := TX7) (N := 16) hx hb hts hinX7 hown hK.1 hP 0 rfl rfl 10 (by decide) hf46 (fun _ h9 => h9) rfl dX7_add_2 ?_
  refine lv_iload_n hx hb dX7_add_5 rfl (lv_at hl 1 rfl) ?_
  refine lv_if_ne (tgt := 13) hx hb dX7_add_6 (by decide) (fun c6 => ?_) (fun c6 => ?_)
  · rw [if_neg c6] at hF
    refine lv_iload_n hx hb dX7_add_13 rfl (lv_at hl 1 rfl) ?_
    refine lv_iconst (v := 2) hx hb dX7_add_14 (by decide) ?_
    refine lv_icmp_ne (tgt := 23) hx hb dX7_add_15 (by decide) (fun c15 => ?_) (fun c15 => ?_)
    · rw [if_neg c15] at hF
      refine lv_iconst (v := 0) hx hb dX7_add_23 (by decide) ?_
      refine lv_iadd hx hb dX7_add_24 ?_
      refine va_put (D := D) (ci := 5) (v := .int (re + 0)) (ty := .int) (C := RX7) (T := TX7) (N := 16) hx hb hts hinX7 tyX7 tyX7_ok nmX7 hown hK.1 hP hD hS 0 rfl rfl 10 (by decide) hf46 (fun _ h9 => h9) rfl (by decide +kernel) rfl rfl (Nat.le_of_ble_eq_true rfl) dX7_add_25 (fun H locs hP hD hS => ?_)
      have hP : va_P D vwCl [(h, .inr (5, [.ref a0, .ref a1, .int (nI fn), .ref a3, .int (nI rn), .ref a5, .ref a6, .int (nI wn), .ref a8, .int (nI bs), .int (re + 0), .int ot, .ref a12, .long ab, .long be, .long hh])), (a0, .inl (cI, 6, .inl (fun i => nI (sn i)))), (a1, .inl (cI, 96, .inl tu)), (a3, .inl (cI, 24, .inl we)), (a5, .inl (cI, 4, .inl (fun i => nI (per i)))), (a6, .inl (cI, 4, .inl rea)), (a8, .inl (cI, 64, .inl rw)), (a12, .inl (cI, 16, .inl cp))] H := hP
      have hD : va_D A [(h, .inr (5, [.ref a0, .ref a1, .int (nI fn), .ref a3, .int (nI rn), .ref a5, .ref a6, .int (nI wn), .ref a8, .int (nI bs), .int (re + 0), .int ot, .ref a12, .long ab, .long be, .long hh])), (a0, .inl (cI, 6, .inl (fun i => nI (sn i)))), (a1, .inl (cI, 96, .inl tu)), (a3, .inl (cI, 24, .inl we)), (a5, .inl (cI, 4, .inl (fun i => nI (per i)))), (a6, .inl (cI, 4, .inl rea)), (a8, .inl (cI, 64, .inl rw)), (a12, .inl (cI, 16, .inl cp))] := hD
      refine lv_aload_n hx hb dX7_add_28 rfl (lv_at hl 0 rfl) ?_
      refine lv_dup hx hb dX7_add_29 rfl ?_
      refine va_get (D := D) (ci := 5) (v := .int ot) (C := RX7) (T := TX7) (N := 16) hx hb hts hinX7 hown hK.1 hP 0 rfl rfl 11 (by decide) hf49 (fun _ h9 => h9) rfl dX7_add_30 ?_
      refine lv_iload_n hx hb dX7_add_33 rfl (lv_at hl 1 rfl) ?_
      refine lv_iconst (v := 1) hx hb dX7_add_34 (by decide) ?_
      refine lv_icmp_ne (tgt := 42) hx hb dX7_add_35 (by decide) (fun c35 => ?_) (fun c35 => ?_)
      · rw [if_neg c35] at hF
        refine lv_iload_n hx hb dX7_add_42 rfl (lv_at hl 1 rfl) ?_
        refine lv_iconst (v := 3) hx hb dX7_add_43 (by decide) ?_
        refine lv_icmp_ne (tgt := 52) hx hb dX7_add_44 (by decide) (fun c44 => ?_) (fun c44 => ?_)
        · rw [if_neg c44] at hF
          refine lv_iconst (v := 0) hx hb dX7_add_52 (by decide) ?_
          refine lv_iadd hx hb dX7_add_53 ?_
          refine va_put (D := D) (ci := 5) (v := .int (ot + 0)) (ty := .int) (C := RX7) (T := TX7) (N := 16) hx hb hts hinX7 tyX7 tyX7_ok nmX7 hown hK.1 hP hD hS 0 rfl rfl 11 (by decide) hf49 (fun _ h9 => h9) rfl (by decide +kernel) rfl rfl (Nat.le_of_ble_eq_true rfl) dX7_add_54 (fun H locs hP hD hS => ?_)
          have hP : va_P D vwCl [(h, .inr (5, [.ref a0, .ref a1, .int (nI fn), .ref a3, .int (nI rn), .ref a5, .ref a6, .int (nI wn), .ref a8, .int (nI bs), .int (re + 0), .int (ot + 0), .ref a12, .long ab, .long be, .long hh])), (a0, .inl (cI, 6, .inl (fun i => nI (sn i)))), (a1, .inl (cI, 96, .inl tu)), (a3, .inl (cI, 24, .inl we)), (a5, .inl (cI, 4, .inl (fun i => nI (per i)))), (a6, .inl (cI, 4, .inl rea)), (a8, .inl (cI, 64, .inl rw)), (a12, .inl (cI, 16, .inl cp))] H := hP
          have hD : va_D A [(h, .inr (5, [.ref a0, .ref a1, .int (nI fn), .ref a3, .int (nI rn), .ref a5, .ref a6, .int (nI wn), .ref a8, .int (nI bs), .int (re + 0), .int (ot + 0), .ref a12, .long ab, .long be, .long hh])), (a0, .inl (cI, 6, .inl (fun i => nI (sn i)))), (a1, .inl (cI, 96, .inl tu)), (a3, .inl (cI, 24, .inl we)), (a5, .inl (cI, 4, .inl (fun i => nI (per i)))), (a6, .inl (cI, 4, .inl rea)), (a8, .inl (cI, 64, .inl rw)), (a12, .inl (cI, 16, .inl cp))] := hD
          subst hF
          subst hQ
          exact W.vret hx hb hr (fun u9 ht hW => ⟨⟨(), rfl, trivial, by rw [← ht] at hP; exact hP⟩, hS.F ht⟩) hS.2.2 dX7_add_57
        · rw [if_pos c44] at hF
          refine lv_iload_n hx hb dX7_add_47 rfl (lv_at hl 2 rfl) ?_
          refine lv_ineg hx hb dX7_add_48 ?_
          refine lv_goto (tgt := 53) hx hb dX7_add_49 (by decide) ?_
          refine lv_iadd hx hb dX7_add_53 ?_
          refine va_put (D := D) (ci := 5) (v := .int (ot + (-ti))) (ty := .int) (C := RX7) (T := TX7) (N := 16) hx hb hts hinX7 tyX7 tyX7_ok nmX7 hown hK.1 hP hD hS 0 rfl rfl 11 (by decide) hf49 (fun _ h9 => h9) rfl (by decide +kernel) rfl rfl (Nat.le_of_ble_eq_true rfl) dX7_add_54 (fun H locs hP hD hS => ?_)
          have hP : va_P D vwCl [(h, .inr (5, [.ref a0, .ref a1, .int (nI fn), .ref a3, .int (nI rn), .ref a5, .ref a6, .int (nI wn), .ref a8, .int (nI bs), .int (re + 0), .int (ot + (-ti)), .ref a12, .long ab, .long be, .long hh])), (a0, .inl (cI, 6, .inl (fun i => nI (sn i)))), (a1, .inl (cI, 96, .inl tu)), (a3, .inl (cI, 24, .inl we)), (a5, .inl (cI, 4, .inl (fun i => nI (per i)))), (a6, .inl (cI, 4, .inl rea)), (a8, .inl (cI, 64, .inl rw)), (a12, .inl (cI, 16, .inl cp))] H := hP
          have hD : va_D A [(h, .inr (5, [.ref a0, .ref a1, .int (nI fn), .ref a3, .int (nI rn), .ref a5, .ref a6, .int (nI wn), .ref a8, .int (nI bs), .int (re + 0), .int (ot + (-ti)), .ref a12, .long ab, .long be, .long hh])), (a0, .inl (cI, 6, .inl (fun i => nI (sn i)))), (a1, .inl (cI, 96, .inl tu)), (a3, .inl (cI, 24, .inl we)), (a5, .inl (cI, 4, .inl (fun i => nI (per i)))), (a6, .inl (cI, 4, .inl rea)), (a8, .inl (cI, 64, .inl rw)), (a12, .inl (cI, 16, .inl cp))] := hD
          subst hF
          subst hQ
          exact W.vret hx hb hr (fun u9 ht hW => ⟨⟨(), rfl, trivial, by rw [← ht] at hP; exact hP⟩, hS.F ht⟩) hS.2.2 dX7_add_57
      · rw [if_pos c35] at hF
        refine lv_iload_n hx hb dX7_add_38 rfl (lv_at hl 2 rfl) ?_
        refine lv_goto (tgt := 53) hx hb dX7_add_39 (by decide) ?_
        refine lv_iadd hx hb dX7_add_53 ?_
        refine va_put (D := D) (ci := 5) (v := .int (ot + ti)) (ty := .int) (C := RX7) (T := TX7) (N := 16) hx hb hts hinX7 tyX7 tyX7_ok nmX7 hown hK.1 hP hD hS 0 rfl rfl 11 (by decide) hf49 (fun _ h9 => h9) rfl (by decide +kernel) rfl rfl (Nat.le_of_ble_eq_true rfl) dX7_add_54 (fun H locs hP hD hS => ?_)
        have hP : va_P D vwCl [(h, .inr (5, [.ref a0, .ref a1, .int (nI fn), .ref a3, .int (nI rn), .ref a5, .ref a6, .int (nI wn), .ref a8, .int (nI bs), .int (re + 0), .int (ot + ti), .ref a12, .long ab, .long be, .long hh])), (a0, .inl (cI, 6, .inl (fun i => nI (sn i)))), (a1, .inl (cI, 96, .inl tu)), (a3, .inl (cI, 24, .inl we)), (a5, .inl (cI, 4, .inl (fun i => nI (per i)))), (a6, .inl (cI, 4, .inl rea)), (a8, .inl (cI, 64, .inl rw)), (a12, .inl (cI, 16, .inl cp))] H := hP
        have hD : va_D A [(h, .inr (5, [.ref a0, .ref a1, .int (nI fn), .ref a3, .int (nI rn), .ref a5, .ref a6, .int (nI wn), .ref a8, .int (nI bs), .int (re + 0), .int (ot + ti), .ref a12, .long ab, .long be, .long hh])), (a0, .inl (cI, 6, .inl (fun i => nI (sn i)))), (a1, .inl (cI, 96, .inl tu)), (a3, .inl (cI, 24, .inl we)), (a5, .inl (cI, 4, .inl (fun i => nI (per i)))), (a6, .inl (cI, 4, .inl rea)), (a8, .inl (cI, 64, .inl rw)), (a12, .inl (cI, 16, .inl cp))] := hD
        subst hF
        subst hQ
        exact W.vret hx hb hr (fun u9 ht hW => ⟨⟨(), rfl, trivial, by rw [← ht] at hP; exact hP⟩, hS.F ht⟩) hS.2.2 dX7_add_57
    · rw [if_pos c15] at hF
      refine lv_iload_n hx hb dX7_add_18 rfl (lv_at hl 2 rfl) ?_
      refine lv_ineg hx hb dX7_add_19 ?_
      refine lv_goto (tgt := 24) hx hb dX7_add_20 (by decide) ?_
      refine lv_iadd hx hb dX7_add_24 ?_
      refine va_put (D := D) (ci := 5) (v := .int (re + (-ti))) (ty := .int) (C := RX7) (T := TX7) (N := 16) hx hb hts hinX7 tyX7 tyX7_ok nmX7 hown hK.1 hP hD hS 0 rfl rfl 10 (by decide) hf46 (fun _ h9 => h9) rfl (by decide +kernel) rfl rfl (Nat.le_of_ble_eq_true rfl) dX7_add_25 (fun H locs hP hD hS => ?_)
      have hP : va_P D vwCl [(h, .inr (5, [.ref a0, .ref a1, .int (nI fn), .ref a3, .int (nI rn), .ref a5, .ref a6, .int (nI wn), .ref a8, .int (nI bs), .int (re + (-ti)), .int ot, .ref a12, .long ab, .long be, .long hh])), (a0, .inl (cI, 6, .inl (fun i => nI (sn i)))), (a1, .inl (cI, 96, .inl tu)), (a3, .inl (cI, 24, .inl we)), (a5, .inl (cI, 4, .inl (fun i => nI (per i)))), (a6, .inl (cI, 4, .inl rea)), (a8, .inl (cI, 64, .inl rw)), (a12, .inl (cI, 16, .inl cp))] H := hP
      have hD : va_D A [(h, .inr (5, [.ref a0, .ref a1, .int (nI fn), .ref a3, .int (nI rn), .ref a5, .ref a6, .int (nI wn), .ref a8, .int (nI bs), .int (re + (-ti)), .int ot, .ref a12, .long ab, .long be, .long hh])), (a0, .inl (cI, 6, .inl (fun i => nI (sn i)))), (a1, .inl (cI, 96, .inl tu)), (a3, .inl (cI, 24, .inl we)), (a5, .inl (cI, 4, .inl (fun i => nI (per i)))), (a6, .inl (cI, 4, .inl rea)), (a8, .inl (cI, 64, .inl rw)), (a12, .inl (cI, 16, .inl cp))] := hD
      refine lv_aload_n hx hb dX7_add_28 rfl (lv_at hl 0 rfl) ?_
      refine lv_dup hx hb dX7_add_29 rfl ?_
      refine va_get (D := D) (ci := 5) (v := .int ot) (C := RX7) (T := TX7) (N := 16) hx hb hts hinX7 hown hK.1 hP 0 rfl rfl 11 (by decide) hf49 (fun _ h9 => h9) rfl dX7_add_30 ?_
      refine lv_iload_n hx hb dX7_add_33 rfl (lv_at hl 1 rfl) ?_
      refine lv_iconst (v := 1) hx hb dX7_add_34 (by decide) ?_
      refine lv_icmp_ne (tgt := 42) hx hb dX7_add_35 (by decide) (fun c35 => ?_) (fun c35 => ?_)
      · rw [if_neg c35] at hF
        refine lv_iload_n hx hb dX7_add_42 rfl (lv_at hl 1 rfl) ?_
        refine lv_iconst (v := 3) hx hb dX7_add_43 (by decide) ?_
        refine lv_icmp_ne (tgt := 52) hx hb dX7_add_44 (by decide) (fun c44 => ?_) (fun c44 => ?_)
        · rw [if_neg c44] at hF
          refine lv_iconst (v := 0) hx hb dX7_add_52 (by decide) ?_
          refine lv_iadd hx hb dX7_add_53 ?_
          refine va_put (D := D) (ci := 5) (v := .int (ot + 0)) (ty := .int) (C := RX7) (T := TX7) (N := 16) hx hb hts hinX7 tyX7 tyX7_ok nmX7 hown hK.1 hP hD hS 0 rfl rfl 11 (by decide) hf49 (fun _ h9 => h9) rfl (by decide +kernel) rfl rfl (Nat.le_of_ble_eq_true rfl) dX7_add_54 (fun H locs hP hD hS => ?_)
          have hP : va_P D vwCl [(h, .inr (5, [.ref a0, .ref a1, .int (nI fn), .ref a3, .int (nI rn), .ref a5, .ref a6, .int (nI wn), .ref a8, .int (nI bs), .int (re + (-ti)), .int (ot + 0), .ref a12, .long ab, .long be, .long hh])), (a0, .inl (cI, 6, .inl (fun i => nI (sn i)))), (a1, .inl (cI, 96, .inl tu)), (a3, .inl (cI, 24, .inl we)), (a5, .inl (cI, 4, .inl (fun i => nI (per i)))), (a6, .inl (cI, 4, .inl rea)), (a8, .inl (cI, 64, .inl rw)), (a12, .inl (cI, 16, .inl cp))] H := hP
          have hD : va_D A [(h, .inr (5, [.ref a0, .ref a1, .int (nI fn), .ref a3, .int (nI rn), .ref a5, .ref a6, .int (nI wn), .ref a8, .int (nI bs), .int (re + (-ti)), .int (ot + 0), .ref a12, .long ab, .long be, .long hh])), (a0, .inl (cI, 6, .inl (fun i => nI (sn i)))), (a1, .inl (cI, 96, .inl tu)), (a3, .inl (cI, 24, .inl we)), (a5, .inl (cI, 4, .inl (fun i => nI (per i)))), (a6, .inl (cI, 4, .inl rea)), (a8, .inl (cI, 64, .inl rw)), (a12, .inl (cI, 16, .inl cp))] := hD
          subst hF
          subst hQ
          exact W.vret hx hb hr (fun u9 ht hW => ⟨⟨(), rfl, trivial, by rw [← ht] at hP; exact hP⟩, hS.F ht⟩) hS.2.2 dX7_add_57
        · rw [if_pos c44] at hF
          refine lv_iload_n hx hb dX7_add_47 rfl (lv_at hl 2 rfl) ?_
          refine lv_ineg hx hb dX7_add_48 ?_
          refine lv_goto (tgt := 53) hx hb dX7_add_49 (by decide) ?_
          refine lv_iadd hx hb dX7_add_53 ?_
          refine va_put (D := D) (ci := 5) (v := .int (ot + (-ti))) (ty := .int) (C := RX7) (T := TX7) (N := 16) hx hb hts hinX7 tyX7 tyX7_ok nmX7 hown hK.1 hP hD hS 0 rfl rfl 11 (by decide) hf49 (fun _ h9 => h9) rfl (by decide +kernel) rfl rfl (Nat.le_of_ble_eq_true rfl) dX7_add_54 (fun H locs hP hD hS => ?_)
          have hP : va_P D vwCl [(h, .inr (5, [.ref a0, .ref a1, .int (nI fn), .ref a3, .int (nI rn), .ref a5, .ref a6, .int (nI wn), .ref a8, .int (nI bs), .int (re + (-ti)), .int (ot + (-ti)), .ref a12, .long ab, .long be, .long hh])), (a0, .inl (cI, 6, .inl (fun i => nI (sn i)))), (a1, .inl (cI, 96, .inl tu)), (a3, .inl (cI, 24, .inl we)), (a5, .inl (cI, 4, .inl (fun i => nI (per i)))), (a6, .inl (cI, 4, .inl rea)), (a8, .inl (cI, 64, .inl rw)), (a12, .inl (cI, 16, .inl cp))] H := hP
          have hD : va_D A [(h, .inr (5, [.ref a0, .ref a1, .int (nI fn), .ref a3, .int (nI rn), .ref a5, .ref a6, .int (nI wn), .ref a8, .int (nI bs), .int (re + (-ti)), .int (ot + (-ti)), .ref a12, .long ab, .long be, .long hh])), (a0, .inl (cI, 6, .inl (fun i => nI (sn i)))), (a1, .inl (cI, 96, .inl tu)), (a3, .inl (cI, 24, .inl we)), (a5, .inl (cI, 4, .inl (fun i => nI (per i)))), (a6, .inl (cI, 4, .inl rea)), (a8, .inl (cI, 64, .inl rw)), (a12, .inl (cI, 16, .inl cp))] := hD
          subst hF
          subst hQ
          exact W.vret hx hb hr (fun u9 ht hW => ⟨⟨(), rfl, trivial, by rw [← ht] at hP; exact hP⟩, hS.F ht⟩) hS.2.2 dX7_add_57
      · rw [if_pos c35] at hF
        refine lv_iload_n hx hb dX7_add_38 rfl (lv_at hl 2 rfl) ?_
        refine lv_goto (tgt := 53) hx hb dX7_add_39 (by decide) ?_
        refine lv_iadd hx hb dX7_add_53 ?_
        refine va_put (D := D) (ci := 5) (v := .int (ot + ti)) (ty := .int) (C := RX7) (T := TX7) (N := 16) hx hb hts hinX7 tyX7 tyX7_ok nmX7 hown hK.1 hP hD hS 0 rfl rfl 11 (by decide) hf49 (fun _ h9 => h9) rfl (by decide +kernel) rfl rfl (Nat.le_of_ble_eq_true rfl) dX7_add_54 (fun H locs hP hD hS => ?_)
        have hP : va_P D vwCl [(h, .inr (5, [.ref a0, .ref a1, .int (nI fn), .ref a3, .int (nI rn), .ref a5, .ref a6, .int (nI wn), .ref a8, .int (nI bs), .int (re + (-ti)), .int (ot + ti), .ref a12, .long ab, .long be, .long hh])), (a0, .inl (cI, 6, .inl (fun i => nI (sn i)))), (a1, .inl (cI, 96, .inl tu)), (a3, .inl (cI, 24, .inl we)), (a5, .inl (cI, 4, .inl (fun i => nI (per i)))), (a6, .inl (cI, 4, .inl rea)), (a8, .inl (cI, 64, .inl rw)), (a12, .inl (cI, 16, .inl cp))] H := hP
        have hD : va_D A [(h, .inr (5, [.ref a0, .ref a1, .int (nI fn), .ref a3, .int (nI rn), .ref a5, .ref a6, .int (nI wn), .ref a8, .int (nI bs), .int (re + (-ti)), .int (ot + ti), .ref a12, .long ab, .long be, .long hh])), (a0, .inl (cI, 6, .inl (fun i => nI (sn i)))), (a1, .inl (cI, 96, .inl tu)), (a3, .inl (cI, 24, .inl we)), (a5, .inl (cI, 4, .inl (fun i => nI (per i)))), (a6, .inl (cI, 4, .inl rea)), (a8, .inl (cI, 64, .inl rw)), (a12, .inl (cI, 16, .inl cp))] := hD
        subst hF
        subst hQ
        exact W.vret hx hb hr (fun u9 ht hW => ⟨⟨(), rfl, trivial, by rw [← ht] at hP; exact hP⟩, hS.F ht⟩) hS.2.2 dX7_add_57
  · rw [if_pos c6] at hF
    refine lv_iload_n hx hb dX7_add_9 rfl (lv_at hl 2 rfl) ?_
    refine lv_goto (tgt := 24) hx hb dX7_add_10 (by decide) ?_
    refine lv_iadd hx hb dX7_add_24 ?_
    refine va_put (D := D) (ci := 5) (v := .int (re + ti)) (ty := .int) (C := RX7) (T := TX7) (N := 16) hx hb hts hinX7 tyX7 tyX7_ok nmX7 hown hK.1 hP hD hS 0 rfl rfl 10 (by decide) hf46 (fun _ h9 => h9) rfl (by decide +kernel) rfl rfl (Nat.le_of_ble_eq_true rfl) dX7_add_25 (fun H locs hP hD hS => ?_)
    have hP : va_P D vwCl [(h, .inr (5, [.ref a0, .ref a1, .int (nI fn), .ref a3, .int (nI rn), .ref a5, .ref a6, .int (nI wn), .ref a8, .int (nI bs), .int (re + ti), .int ot, .ref a12, .long ab, .long be, .long hh])), (a0, .inl (cI, 6, .inl (fun i => nI (sn i)))), (a1, .inl (cI, 96, .inl tu)), (a3, .inl (cI, 24, .inl we)), (a5, .inl (cI, 4, .inl (fun i => nI (per i)))), (a6, .inl (cI, 4, .inl rea)), (a8, .inl (cI, 64, .inl rw)), (a12, .inl (cI, 16, .inl cp))] H := hP
    have hD : va_D A [(h, .inr (5, [.ref a0, .ref a1, .int (nI fn), .ref a3, .int (nI rn), .ref a5, .ref a6, .int (nI wn), .ref a8, .int (nI bs), .int (re + ti), .int ot, .ref a12, .long ab, .long be, .long hh])), (a0, .inl (cI, 6, .inl (fun i => nI (sn i)))), (a1, .inl (cI, 96, .inl tu)), (a3, .inl (cI, 24, .inl we)), (a5, .inl (cI, 4, .inl (fun i => nI (per i)))), (a6, .inl (cI, 4, .inl rea)), (a8, .inl (cI, 64, .inl rw)), (a12, .inl (cI, 16, .inl cp))] := hD
    refine lv_aload_n hx hb dX7_add_28 rfl (lv_at hl 0 rfl) ?_
    refine lv_dup hx hb dX7_add_29 rfl ?_
    refine va_get (D := D) (ci := 5) (v := .int ot) (C := RX7) (T := TX7) (N := 16) hx hb hts hinX7 hown hK.1 hP 0 rfl rfl 11 (by decide) hf49 (fun _ h9 => h9) rfl dX7_add_30 ?_
    refine lv_iload_n hx hb dX7_add_33 rfl (lv_at hl 1 rfl) ?_
    refine lv_iconst (v := 1) hx hb dX7_add_34 (by decide) ?_
    refine lv_icmp_ne (tgt := 42) hx hb dX7_add_35 (by decide) (fun c35 => ?_) (fun c35 => ?_)
    · rw [if_neg c35] at hF
      refine lv_iload_n hx hb dX7_add_42 rfl (lv_at hl 1 rfl) ?_
      refine lv_iconst (v := 3) hx hb dX7_add_43 (by decide) ?_
      refine lv_icmp_ne (tgt := 52) hx hb dX7_add_44 (by decide) (fun c44 => ?_) (fun c44 => ?_)
      · rw [if_neg c44] at hF
        refine lv_iconst (v := 0) hx hb dX7_add_52 (by decide) ?_
        refine lv_iadd hx hb dX7_add_53 ?_
        refine va_put (D := D) (ci := 5) (v := .int (ot + 0)) (ty := .int) (C := RX7) (T := TX7) (N := 16) hx hb hts hinX7 tyX7 tyX7_ok nmX7 hown hK.1 hP hD hS 0 rfl rfl 11 (by decide) hf49 (fun _ h9 => h9) rfl (by decide +kernel) rfl rfl (Nat.le_of_ble_eq_true rfl) dX7_add_54 (fun H locs hP hD hS => ?_)
        have hP : va_P D vwCl [(h, .inr (5, [.ref a0, .ref a1, .int (nI fn), .ref a3, .int (nI rn), .ref a5, .ref a6, .int (nI wn), .ref a8, .int (nI bs), .int (re + ti), .int (ot + 0), .ref a12, .long ab, .long be, .long hh])), (a0, .inl (cI, 6, .inl (fun i => nI (sn i)))), (a1, .inl (cI, 96, .inl tu)), (a3, .inl (cI, 24, .inl we)), (a5, .inl (cI, 4, .inl (fun i => nI (per i)))), (a6, .inl (cI, 4, .inl rea)), (a8, .inl (cI, 64, .inl rw)), (a12, .inl (cI, 16, .inl cp))] H := hP
        have hD : va_D A [(h, .inr (5, [.ref a0, .ref a1, .int (nI fn), .ref a3, .int (nI rn), .ref a5, .ref a6, .int (nI wn), .ref a8, .int (nI bs), .int (re + ti), .int (ot + 0), .ref a12, .long ab, .long be, .long hh])), (a0, .inl (cI, 6, .inl (fun i => nI (sn i)))), (a1, .inl (cI, 96, .inl tu)), (a3, .inl (cI, 24, .inl we)), (a5, .inl (cI, 4, .inl (fun i => nI (per i)))), (a6, .inl (cI, 4, .inl rea)), (a8, .inl (cI, 64, .inl rw)), (a12, .inl (cI, 16, .inl cp))] := hD
        subst hF
        subst hQ
        exact W.vret hx hb hr (fun u9 ht hW => ⟨⟨(), rfl, trivial, by rw [← ht] at hP; exact hP⟩, hS.F ht⟩) hS.2.2 dX7_add_57
      · rw [if_pos c44] at hF
        refine lv_iload_n hx hb dX7_add_47 rfl (lv_at hl 2 rfl) ?_
        refine lv_ineg hx hb dX7_add_48 ?_
        refine lv_goto (tgt := 53) hx hb dX7_add_49 (by decide) ?_
        refine lv_iadd hx hb dX7_add_53 ?_
        refine va_put (D := D) (ci := 5) (v := .int (ot + (-ti))) (ty := .int) (C := RX7) (T := TX7) (N := 16) hx hb hts hinX7 tyX7 tyX7_ok nmX7 hown hK.1 hP hD hS 0 rfl rfl 11 (by decide) hf49 (fun _ h9 => h9) rfl (by decide +kernel) rfl rfl (Nat.le_of_ble_eq_true rfl) dX7_add_54 (fun H locs hP hD hS => ?_)
        have hP : va_P D vwCl [(h, .inr (5, [.ref a0, .ref a1, .int (nI fn), .ref a3, .int (nI rn), .ref a5, .ref a6, .int (nI wn), .ref a8, .int (nI bs), .int (re + ti), .int (ot + (-ti)), .ref a12, .long ab, .long be, .long hh])), (a0, .inl (cI, 6, .inl (fun i => nI (sn i)))), (a1, .inl (cI, 96, .inl tu)), (a3, .inl (cI, 24, .inl we)), (a5, .inl (cI, 4, .inl (fun i => nI (per i)))), (a6, .inl (cI, 4, .inl rea)), (a8, .inl (cI, 64, .inl rw)), (a12, .inl (cI, 16, .inl cp))] H := hP
        have hD : va_D A [(h, .inr (5, [.ref a0, .ref a1, .int (nI fn), .ref a3, .int (nI rn), .ref a5, .ref a6, .int (nI wn), .ref a8, .int (nI bs), .int (re + ti), .int (ot + (-ti)), .ref a12, .long ab, .long be, .long hh])), (a0, .inl (cI, 6, .inl (fun i => nI (sn i)))), (a1, .inl (cI, 96, .inl tu)), (a3, .inl (cI, 24, .inl we)), (a5, .inl (cI, 4, .inl (fun i => nI (per i)))), (a6, .inl (cI, 4, .inl rea)), (a8, .inl (cI, 64, .inl rw)), (a12, .inl (cI, 16, .inl cp))] := hD
        subst hF
        subst hQ
        exact W.vret hx hb hr (fun u9 ht hW => ⟨⟨(), rfl, trivial, by rw [← ht] at hP; exact hP⟩, hS.F ht⟩) hS.2.2 dX7_add_57
    · rw [if_pos c35] at hF
      refine lv_iload_n hx hb dX7_add_38 rfl (lv_at hl 2 rfl) ?_
      refine lv_goto (tgt := 53) hx hb dX7_add_39 (by decide) ?_
      refine lv_iadd hx hb dX7_add_53 ?_
      refine va_put (D := D) (ci := 5) (v := .int (ot + ti)) (ty := .int) (C := RX7) (T := TX7) (N := 16) hx hb hts hinX7 tyX7 tyX7_ok nmX7 hown hK.1 hP hD hS 0 rfl rfl 11 (by decide) hf49 (fun _ h9 => h9) rfl (by decide +kernel) rfl rfl (Nat.le_of_ble_eq_true rfl) dX7_add_54 (fun H locs hP hD hS => ?_)
      have hP : va_P D vwCl [(h, .inr (5, [.ref a0, .ref a1, .int (nI fn), .ref a3, .int (nI rn), .ref a5, .ref a6, .int (nI wn), .ref a8, .int (nI bs), .int (re + ti), .int (ot + ti), .ref a12, .long ab, .long be, .long hh])), (a0, .inl (cI, 6, .inl (fun i => nI (sn i)))), (a1, .inl (cI, 96, .inl tu)), (a3, .inl (cI, 24, .inl we)), (a5, .inl (cI, 4, .inl (fun i => nI (per i)))), (a6, .inl (cI, 4, .inl rea)), (a8, .inl (cI, 64, .inl rw)), (a12, .inl (cI, 16, .inl cp))] H := hP
      have hD : va_D A [(h, .inr (5, [.ref a0, .ref a1, .int (nI fn), .ref a3, .int (nI rn), .ref a5, .ref a6, .int (nI wn), .ref a8, .int (nI bs), .int (re + ti), .int (ot + ti), .ref a12, .long ab, .long be, .long hh])), (a0, .inl (cI, 6, .inl (fun i => nI (sn i)))), (a1, .inl (cI, 96, .inl tu)), (a3, .inl (cI, 24, .inl we)), (a5, .inl (cI, 4, .inl (fun i => nI (per i)))), (a6, .inl (cI, 4, .inl rea)), (a8, .inl (cI, 64, .inl rw)), (a12, .inl (cI, 16, .inl cp))] := hD
      subst hF
      subst hQ
      exact W.vret hx hb hr (fun u9 ht hW => ⟨⟨(), rfl, trivial, by rw [← ht] at hP; exact hP⟩, hS.F ht⟩) hS.2.2 dX7_add_57
def F_X7_looks_13 (sn : Nat → Nat) (tu : Nat → Int32) (a : Nat) (b : Nat) (kk : Int32) (dd : Int32) : Nat → Nat → Int32 → Int32 → (Int32 × Int32 × Int32)
  | 0, k13, re, ot => ((re * re) + (ot * ot), re, ot)
  | r13 + 1, k13, re, ot => (if (fX7_in ((nI k13) + kk) 0 ((nI (sn b)) - 1)) = 0 then F_X7_looks_13 sn tu a b kk dd r13 (k13 + 1) re ot else F_X7_looks_13 sn tu a b kk dd r13 (k13 + 1) ((fX7_add re ot (((((tu (16 * a + k13)) + 4) - (tu (((16 * (nI b)) + (nI k13)) + kk).toNatClampNeg)) + (dd * (nI k13))) - ((((tu (16 * a + k13)) + 4) - (tu (((16 * (nI b)) + (nI k13)) + kk).toNatClampNeg)) + (dd * (nI k13))) / 4 * 4) 1).1) ((fX7_add re ot (((((tu (16 * a + k13)) + 4) - (tu (((16 * (nI b)) + (nI k13)) + kk).toNatClampNeg)) + (dd * (nI k13))) - ((((tu (16 * a + k13)) + 4) - (tu (((16 * (nI b)) + (nI k13)) + kk).toNatClampNeg)) + (dd * (nI k13))) / 4 * 4) 1).2))
def fX7_looks (sn : Nat → Nat) (tu : Nat → Int32) (a : Nat) (b : Nat) (kk : Int32) (dd : Int32) : Int32 × Int32 × Int32 := F_X7_looks_13 sn tu a b kk dd ((sn a) - 0) 0 0 0
abbrev rmX7_looks : Room := { frames := 1, cells := 0, slots := 0, locals := 22 }
set_option maxHeartbeats 4000000 in
set_option maxRecDepth 100000 in
theorem c_X7_looks (l : Launch) (D : va_G) (cI : ClassId) (sz : Nat) (h : Nat) (a0 : Nat) (a1 : Nat) (a3 : Nat) (a5 : Nat) (a6 : Nat) (a8 : Nat) (a12 : Nat) (sn : Nat → Nat) (tu : Nat → Int32) (fn : Nat) (we : Nat → Int32) (rn : Nat) (per : Nat → Nat) (rea : Nat → Int32) (wn : Nat) (rw : Nat → Int32) (bs : Nat) (re : Int32) (ot : Int32) (cp : Nat → Int32) (ab : Int64) (be : Int64) (hh : Int64) (a : Nat) (b : Nat) (kk : Int32) (dd : Int32) (hsn : ∀ c, c < 6 → 1 ≤ sn c ∧ sn c ≤ 16) (ha : a < 6) (hb6 : b < 6) : Met l yX7_looks wsX7_looks rmX7_looks (va_Pc [.ref h, .int (nI a), .int (nI b), .int kk, .int dd] (wrP D [(cI, .int)] [(h, .inr (5, [.ref a0, .ref a1, .int (nI fn), .ref a3, .int (nI rn), .ref a5, .ref a6, .int (nI wn), .ref a8, .int (nI bs), .int re, .int ot, .ref a12, .long ab, .long be, .long hh])), (a0, .inl (cI, 6, .inl (fun i => nI (sn i)))), (a1, .inl (cI, 96, .inl tu)), (a3, .inl (cI, 24, .inl we)), (a5, .inl (cI, 4, .inl (fun i => nI (per i)))), (a6, .inl (cI, 4, .inl rea)), (a8, .inl (cI, 64, .inl rw)), (a12, .inl (cI, 16, .inl cp))] sz)) (va_Qi (fun r9 (_ : Unit) => r9 = (fX7_looks sn tu a b kk dd).1) (fun _ u9 => va_P D vwCl [(h, .inr (5, [.ref a0, .ref a1, .int (nI fn), .ref a3, .int (nI rn), .ref a5, .ref a6, .int (nI wn), .ref a8, .int (nI bs), .int ((fX7_looks sn tu a b kk dd).2.1), .int ((fX7_looks sn tu a b kk dd).2.2), .ref a12, .long ab, .long be, .long hh])), (a0, .inl (cI, 6, .inl (fun i => nI (sn i)))), (a1, .inl (cI, 96, .inl tu)), (a3, .inl (cI, 24, .inl we)), (a5, .inl (cI, 4, .inl (fun i => nI (per i)))), (a6, .inl (cI, 4, .inl rea)), (a8, .inl (cI, 64, .inl rw)), (a12, .inl (cI, 16, .inl cp))] u9.heap) (va_A [(h, .inr (5, [.ref a0, .ref a1, .int (nI fn), .ref a3, .int (nI rn), .ref a5, .ref a6, .int (nI wn), .ref a8, .int (nI bs), .int re, .int ot, .ref a12, .long ab, .long be, .long hh])), (a0, .inl (cI, 6, .inl (fun i => nI (sn i)))), (a1, .inl (cI, 96, .inl tu)), (a3, .inl (cI, 24, .inl we)), (a5, .inl (cI, 4, .inl (fun i => nI (per i)))), (a6, .inl (cI, 4, .inl rea)), (a8, .inl (cI, 64, .inl rw)), (a12, .inl (cI, 16, .inl cp))] sz)) 0 0 (va_A [(h, .inr (5, [.ref a0, .ref a1, .int (nI fn), .ref a3, .int (nI rn), .ref a5, .ref a6, .int (nI wn), .ref a8, .int (nI bs), .int re, .int ot, .ref a12, .long ab, .long be, .long hh])), (a0, .inl (cI, 6, .inl (fun i => nI (sn i)))), (a1, .inl (cI, 96, .inl tu)), (a3, .inl (cI, 24, .inl we)), (a5, .inl (cI, 4, .inl (fun i => nI (per i)))), (a6, .inl (cI, 4, .inl rea)), (a8, .inl (cI, 64, .inl rw)), (a12, .inl (cI, 16, .inl cp))] sz) := by
  generalize hF : fX7_looks sn tu a b kk dd = T
  refine Met.ofW (cc := cX7_looks) (maxL := 6) (ret := (some .int)) (by decide) rfl ?_
  intro p e s m args below meth c s₁ B hml hv
  obtain ⟨rfl, hsz, hP, hK, hD0⟩ := hv
  have hx := B.exec
  have hb := B.bytes
  have hr := B.returns
  have hts := atoms_spec (ws := wsX7_looks) B.pre
  have hown : s.vm.findClass RX7 = some m.cls := findClass_of_methodNamed B.named
  have hlocks := B.notSynchronized
  have hinX7 : ∀ w ∈ u_ws RX7 TX7 16, w ∈ wsX7_looks := by decide +kernel
  have hf46 := hts (.fieldLink RX7 46 "PulseSignsModel" "real" "I") (by decide +kernel)
  have hf49 := hts (.fieldLink RX7 49 "PulseSignsModel" "other" "I") (by decide +kernel)
  have hf7 := hts (.fieldLink RX7 7 "PulseSignsModel" "sizes" "[I") (by decide +kernel)
  have hf13 := hts (.fieldLink RX7 13 "PulseSignsModel" "turns" "[I") (by decide +kernel)
  subst hsz
  have hD := hD0.self (sz := s.heap.size)
  generalize hAe : va_A [(h, .inr (5, [.ref a0, .ref a1, .int (nI fn), .ref a3, .int (nI rn), .ref a5, .ref a6, .int (nI wn), .ref a8, .int (nI bs), .int re, .int ot, .ref a12, .long ab, .long be, .long hh])), (a0, .inl (cI, 6, .inl (fun i => nI (sn i)))), (a1, .inl (cI, 96, .inl tu)), (a3, .inl (cI, 24, .inl we)), (a5, .inl (cI, 4, .inl (fun i => nI (per i)))), (a6, .inl (cI, 4, .inl rea)), (a8, .inl (cI, 64, .inl rw)), (a12, .inl (cI, 16, .inl cp))] s.heap.size = A at hD ⊢
  have hA : ∀ q : Nat, s.heap.size ≤ q → A q := fun q h => by rw [← hAe]; exact Or.inr h
  have hS : va_S A s.heap s.heap [] := va_S.rf
  have hP : va_P D vwCl [(h, .inr (5, [.ref a0, .ref a1, .int (nI fn), .ref a3, .int (nI rn), .ref a5, .ref a6, .int (nI wn), .ref a8, .int (nI bs), .int re, .int ot, .ref a12, .long ab, .long be, .long hh])), (a0, .inl (cI, 6, .inl (fun i => nI (sn i)))), (a1, .inl (cI, 96, .inl tu)), (a3, .inl (cI, 24, .inl we)), (a5, .inl (cI, 4, .inl (fun i => nI (per i)))), (a6, .inl (cI, 4, .inl rea)), (a8, .inl (cI, 64, .inl rw)), (a12, .inl (cI, 16, .inl cp))] s.heap := hP
  have hl := lv_entry ([.ref h, .int (nI a), .int (nI b), .int kk, .int dd]) (n := 6) (Nat.le_of_ble_eq_true rfl)
  rw [lg_entry_eq]
  generalize (lg_sl ([.ref h, .int (nI a), .int (nI b), .int kk, .int dd]) ++ List.replicate (6 - (lg_sl ([.ref h, .int (nI a), .int (nI b), .int kk, .int dd])).length) Slot.unset).toArray = ls at hl ⊢
  refine w_Q (fun Q hQ => ?_)
  have ha16 := hsn a ha
  have hb16 := hsn b hb6
  have hl : lv_has ls 6 [(0, .ref h), (1, .int (nI a)), (2, .int (nI b)), (3, .int kk), (4, .int dd)] := hl
  rw [fX7_looks] at hF
  refine lv_aload_n hx hb dX7_looks_0 rfl (lv_at hl 0 rfl) ?_
  refine lv_iconst (v := 0) hx hb dX7_looks_1 (by decide) ?_
  refine va_put (D := D) (ci := 5) (v := .int 0) (ty := .int) (C := RX7) (T := TX7) (N := 16) hx hb hts hinX7 tyX7 tyX7_ok nmX7 hown hK.1 hP hD hS 0 rfl rfl 10 (by decide) hf46 (fun _ h9 => h9) rfl (by decide +kernel) rfl rfl (Nat.le_of_ble_eq_true rfl) dX7_looks_2 (fun H locs hP hD hS => ?_)
  have hP : va_P D vwCl [(h, .inr (5, [.ref a0, .ref a1, .int (nI fn), .ref a3, .int (nI rn), .ref a5, .ref a6, .int (nI wn), .ref a8, .int (nI bs), .int 0, .int ot, .ref a12, .long ab, .long be, .long hh])), (a0, .inl (cI, 6, .inl (fun i => nI (sn i)))), (a1, .inl (cI, 96, .inl tu)), (a3, .inl (cI, 24, .inl we)), (a5, .inl (cI, 4, .inl (fun i => nI (per i)))), (a6, .inl (cI, 4, .inl rea)), (a8, .inl (cI, 64, .inl rw)), (a12, .inl (cI, 16, .inl cp))] H := hP
  have hD : va_D A [(h, .inr (5, [.ref a0, .ref a1, .int (nI fn), .ref a3, .int (nI rn), .ref a5, .ref a6, .int (nI wn), .ref a8, .int (nI bs), .int 0, .int ot, .ref a12, .long ab, .long be, .long hh])), (a0, .inl (cI, 6, .inl (fun i => nI (sn i)))), (a1, .inl (cI, 96, .inl tu)), (a3, .inl (cI, 24, .inl we)), (a5, .inl (cI, 4, .inl (fun i => nI (per i)))), (a6, .inl (cI, 4, .inl rea)), (a8, .inl (cI, 64, .inl rw)), (a12, .inl (cI, 16, .inl cp))] := hD
  refine lv_aload_n hx hb dX7_looks_5 rfl (lv_at hl 0 rfl) ?_
  refine lv_iconst (v := 0) hx hb dX7_looks_6 (by decide) ?_
  refine va_put (D := D) (ci := 5) (v := .int 0) (ty := .int) (C := RX7) (T := TX7) (N := 16) hx hb hts hinX7 tyX7 tyX7_ok nmX7 hown hK.1 hP hD hS 0 rfl rfl 11 (by decide) hf49 (fun _ h9 => h9) rfl (by decide +kernel) rfl rfl (Nat.le_of_ble_eq_true rfl) dX7_looks_7 (fun H locs hP hD hS => ?_)
  have hP : va_P D vwCl [(h, .inr (5, [.ref a0, .ref a1, .int (nI fn), .ref a3, .int (nI rn), .ref a5, .ref a6, .int (nI wn), .ref a8, .int (nI bs), .int 0, .int 0, .ref a12, .long ab, .long be, .long hh])), (a0, .inl (cI, 6, .inl (fun i => nI (sn i)))), (a1, .inl (cI, 96, .inl tu)), (a3, .inl (cI, 24, .inl we)), (a5, .inl (cI, 4, .inl (fun i => nI (per i)))), (a6, .inl (cI, 4, .inl rea)), (a8, .inl (cI, 64, .inl rw)), (a12, .inl (cI, 16, .inl cp))] H := hP
  have hD : va_D A [(h, .inr (5, [.ref a0, .ref a1, .int (nI fn), .ref a3, .int (nI rn), .ref a5, .ref a6, .int (nI wn), .ref a8, .int (nI bs), .int 0, .int 0, .ref a12, .long ab, .long be, .long hh])), (a0, .inl (cI, 6, .inl (fun i => nI (sn i)))), (a1, .inl (cI, 96, .inl tu)), (a3, .inl (cI, 24, .inl we)), (a5, .inl (cI, 4, .inl (fun i => nI (per i)))), (a6, .inl (cI, 4, .inl rea)), (a8, .inl (cI, 64, .inl rw)), (a12, .inl (cI, 16, .inl cp))] := hD
  refine lv_iconst (v := 0) hx hb dX7_looks_10 (by decide) ?_
  refine lv_istore (lv' := [(5, .int 0), (0, .ref h), (1, .int (nI a)), (2, .int (nI b)), (3, .int kk), (4, .int dd)]) hx hb dX7_looks_11 hl (by decide) rfl (fun ls hl => ?_)
  have lp13 : ∀ (r13 k13 : Nat) (re : Int32) (ot : Int32) (H : Heap) (locs : List Loc) (ls : Array Slot), r13 = (sn a) - k13 → k13 ≤ (sn a) + 1 → va_P D vwCl [(h, .inr (5, [.ref a0, .ref a1, .int (nI fn), .ref a3, .int (nI rn), .ref a5, .ref a6, .int (nI wn), .ref a8, .int (nI bs), .int re, .int ot, .ref a12, .long ab, .long be, .long hh])), (a0, .inl (cI, 6, .inl (fun i => nI (sn i)))), (a1, .inl (cI, 96, .inl tu)), (a3, .inl (cI, 24, .inl we)), (a5, .inl (cI, 4, .inl (fun i => nI (per i)))), (a6, .inl (cI, 4, .inl rea)), (a8, .inl (cI, 64, .inl rw)), (a12, .inl (cI, 16, .inl cp))] H → va_D A [(h, .inr (5, [.ref a0, .ref a1, .int (nI fn), .ref a3, .int (nI rn), .ref a5, .ref a6, .int (nI wn), .ref a8, .int (nI bs), .int re, .int ot, .ref a12, .long ab, .long be, .long hh])), (a0, .inl (cI, 6, .inl (fun i => nI (sn i)))), (a1, .inl (cI, 96, .inl tu)), (a3, .inl (cI, 24, .inl we)), (a5, .inl (cI, 4, .inl (fun i => nI (per i)))), (a6, .inl (cI, 4, .inl rea)), (a8, .inl (cI, 64, .inl rw)), (a12, .inl (cI, 16, .inl cp))] → va_S A s.heap H locs → lv_has ls 6 [(0, .ref h), (1, .int (nI a)), (2, .int (nI b)), (3, .int kk), (4, .int dd), (5, .int (nI k13))] → F_X7_looks_13 sn tu a b kk dd r13 k13 re ot = T → W p l e (headSpec wsX7_looks rmX7_looks).room s m ([.ref h, .int (nI a), .int (nI b), .int kk, .int dd] : List Value).toArray below meth c H locs 0 0 Q (F0 m 13 ls []) := by
    intro r13
    induction r13 with
    | zero =>
      intro k13 re ot H locs ls hi13_0 hi13_1 hP hD hS hl hF
      rw [F_X7_looks_13] at hF
      refine lv_iload hx hb dX7_looks_13 (lv_at hl 5 rfl) ?_
      refine lv_aload_n hx hb dX7_looks_15 rfl (lv_at hl 0 rfl) ?_
      refine va_get (D := D) (ci := 5) (v := .ref a0) (C := RX7) (T := TX7) (N := 16) hx hb hts hinX7 hown hK.1 hP 0 rfl rfl 0 (by decide) hf7 (fun _ h9 => h9) rfl dX7_looks_16 ?_
      refine lv_iload_n hx hb dX7_looks_19 rfl (lv_at hl 1 rfl) ?_
      refine w_ald hx hb hK hP 1 0 rfl rfl (a) rfl (by omega) (by omega) dX7_looks_20 ?_
      refine lv_icmp_ge (tgt := 91) hx hb dX7_looks_21 (by decide) (fun c21 => ?_) (fun c21 => ?_)
      · skip
        refine lv_aload_n hx hb dX7_looks_91 rfl (lv_at hl 0 rfl) ?_
        refine va_get (D := D) (ci := 5) (v := .int re) (C := RX7) (T := TX7) (N := 16) hx hb hts hinX7 hown hK.1 hP 0 rfl rfl 10 (by decide) hf46 (fun _ h9 => h9) rfl dX7_looks_92 ?_
        refine lv_aload_n hx hb dX7_looks_95 rfl (lv_at hl 0 rfl) ?_
        refine va_get (D := D) (ci := 5) (v := .int re) (C := RX7) (T := TX7) (N := 16) hx hb hts hinX7 hown hK.1 hP 0 rfl rfl 10 (by decide) hf46 (fun _ h9 => h9) rfl dX7_looks_96 ?_
        refine lv_imul hx hb dX7_looks_99 ?_
        refine lv_aload_n hx hb dX7_looks_100 rfl (lv_at hl 0 rfl) ?_
        refine va_get (D := D) (ci := 5) (v := .int ot) (C := RX7) (T := TX7) (N := 16) hx hb hts hinX7 hown hK.1 hP 0 rfl rfl 11 (by decide) hf49 (fun _ h9 => h9) rfl dX7_looks_101 ?_
        refine lv_aload_n hx hb dX7_looks_104 rfl (lv_at hl 0 rfl) ?_
        refine va_get (D := D) (ci := 5) (v := .int ot) (C := RX7) (T := TX7) (N := 16) hx hb hts hinX7 hown hK.1 hP 0 rfl rfl 11 (by decide) hf49 (fun _ h9 => h9) rfl dX7_looks_105 ?_
        refine lv_imul hx hb dX7_looks_108 ?_
        refine lv_iadd hx hb dX7_looks_109 ?_
        subst hF
        subst hQ
        exact W.iret (v := (re * re) + (ot * ot)) hx hb hr (fun u9 ht hW => ⟨⟨_, (), rfl, rfl, by rw [← ht] at hP; exact hP⟩, hS.F ht⟩) hS.2.2 dX7_looks_110
      · exact False.elim (c21 (nI_le (a := (sn a)) (b := k13) (by omega) (by omega)))
    | succ r13 ih13 =>
      intro k13 re ot H locs ls hi13_0 hi13_1 hP hD hS hl hF
      rw [F_X7_looks_13] at hF
      refine lv_iload hx hb dX7_looks_13 (lv_at hl 5 rfl) ?_
      refine lv_aload_n hx hb dX7_looks_15 rfl (lv_at hl 0 rfl) ?_
      refine va_get (D := D) (ci := 5) (v := .ref a0) (C := RX7) (T := TX7) (N := 16) hx hb hts hinX7 hown hK.1 hP 0 rfl rfl 0 (by decide) hf7 (fun _ h9 => h9) rfl dX7_looks_16 ?_
      refine lv_iload_n hx hb dX7_looks_19 rfl (lv_at hl 1 rfl) ?_
      refine w_ald hx hb hK hP 1 0 rfl rfl (a) rfl (by omega) (by omega) dX7_looks_20 ?_
      refine lv_icmp_ge (tgt := 91) hx hb dX7_looks_21 (by decide) (fun c21 => ?_) (fun c21 => ?_)
      · exact False.elim (nI_ge (a := k13) (b := (sn a)) (by omega) (by omega) c21)
      · skip
        refine lv_iload hx hb dX7_looks_24 (lv_at hl 5 rfl) ?_
        refine lv_iload_n hx hb dX7_looks_26 rfl (lv_at hl 3 rfl) ?_
        refine lv_iadd hx hb dX7_looks_27 ?_
        refine lv_iconst (v := 0) hx hb dX7_looks_28 (by decide) ?_
        refine lv_aload_n hx hb dX7_looks_29 rfl (lv_at hl 0 rfl) ?_
        refine va_get (D := D) (ci := 5) (v := .ref a0) (C := RX7) (T := TX7) (N := 16) hx hb hts hinX7 hown hK.1 hP 0 rfl rfl 0 (by decide) hf7 (fun _ h9 => h9) rfl dX7_looks_30 ?_
        refine lv_iload_n hx hb dX7_looks_33 rfl (lv_at hl 2 rfl) ?_
        refine w_ald hx hb hK hP 1 0 rfl rfl (b) rfl (by omega) (by omega) dX7_looks_34 ?_
        refine lv_iconst (v := 1) hx hb dX7_looks_35 (by decide) ?_
        refine lv_isub hx hb dX7_looks_36 ?_
        have hPc := hP.sub (ws' := []) [] rfl
        refine cs_i (va_runS (As := [.int ((nI k13) + kk), .int 0, .int ((nI (sn b)) - 1)]) (rest := []) ⟨hx, hb, hml, hown, hts⟩ (c_X7_in l D cI ((nI k13) + kk) 0 ((nI (sn b)) - 1) ) (va_cwS 3 hts gX7_looks_X7_in rfl rfl rfl (by decide +kernel) ⟨(Nat.le_of_ble_eq_true rfl), (Nat.le_of_ble_eq_true rfl)⟩) (ro_pre hPc hK) rfl rfl hl.1 rfl (lv_room (Nat.le_of_ble_eq_true rfl)) dX7_looks_37 ⟨Nat.zero_le _, Nat.zero_le _⟩) ?_
        refine lv_if_eq (tgt := 85) hx hb dX7_looks_40 (by decide) (fun c40 => ?_) (fun c40 => ?_)
        · rw [if_pos c40] at hF
          refine lv_iinc (v := nI (k13 + 1)) (lv' := [(5, .int (nI (k13 + 1))), (0, .ref h), (1, .int (nI a)), (2, .int (nI b)), (3, .int kk), (4, .int dd)]) hx hb dX7_looks_85 hl (k := 5) rfl (nI_1 _) (by decide) rfl (fun ls hl => ?_)
          refine lv_goto (tgt := 13) hx hb dX7_looks_88 (by decide) ?_
          exact ih13 (k13 + 1) re ot H locs ls (by omega) (by omega) hP hD hS (lv_sub hl [1, 2, 3, 4, 5, 0] rfl) hF
        · rw [if_neg c40] at hF
          refine lv_aload_n hx hb dX7_looks_43 rfl (lv_at hl 0 rfl) ?_
          refine lv_aload_n hx hb dX7_looks_44 rfl (lv_at hl 0 rfl) ?_
          refine va_get (D := D) (ci := 5) (v := .ref a1) (C := RX7) (T := TX7) (N := 16) hx hb hts hinX7 hown hK.1 hP 0 rfl rfl 1 (by decide) hf13 (fun _ h9 => h9) rfl dX7_looks_45 ?_
          refine lv_bipush (v := 16) hx hb dX7_looks_48 (by decide) ?_
          refine lv_iload_n hx hb dX7_looks_50 rfl (lv_at hl 1 rfl) ?_
          refine lv_imul hx hb dX7_looks_51 ?_
          refine lv_iload hx hb dX7_looks_52 (lv_at hl 5 rfl) ?_
          refine lv_iadd hx hb dX7_looks_54 ?_
          refine w_ald hx hb hK hP 2 0 rfl rfl (16 * a + k13) (idx16 _ _) (by omega) (by omega) dX7_looks_55 ?_
          refine lv_iconst (v := 4) hx hb dX7_looks_56 (by decide) ?_
          refine lv_iadd hx hb dX7_looks_57 ?_
          refine lv_aload_n hx hb dX7_looks_58 rfl (lv_at hl 0 rfl) ?_
          refine va_get (D := D) (ci := 5) (v := .ref a1) (C := RX7) (T := TX7) (N := 16) hx hb hts hinX7 hown hK.1 hP 0 rfl rfl 1 (by decide) hf13 (fun _ h9 => h9) rfl dX7_looks_59 ?_
          refine lv_bipush (v := 16) hx hb dX7_looks_62 (by decide) ?_
          refine lv_iload_n hx hb dX7_looks_64 rfl (lv_at hl 2 rfl) ?_
          refine lv_imul hx hb dX7_looks_65 ?_
          refine lv_iload hx hb dX7_looks_66 (lv_at hl 5 rfl) ?_
          refine lv_iadd hx hb dX7_looks_68 ?_
          refine lv_iload_n hx hb dX7_looks_69 rfl (lv_at hl 3 rfl) ?_
          refine lv_iadd hx hb dX7_looks_70 ?_
          refine va_iald hx hb hK.1 hP 2 0 rfl rfl (looks_in c40 (by omega) (by omega) (by omega)) dX7_looks_71 ?_
          refine lv_isub hx hb dX7_looks_72 ?_
          refine lv_iload hx hb dX7_looks_73 (lv_at hl 4 rfl) ?_
          refine lv_iload hx hb dX7_looks_75 (lv_at hl 5 rfl) ?_
          refine lv_imul hx hb dX7_looks_77 ?_
          refine lv_iadd hx hb dX7_looks_78 ?_
          refine lv_iconst (v := 4) hx hb dX7_looks_79 (by decide) ?_
          refine lv_irem hx hb dX7_looks_80 (by decide) ?_
          refine lv_iconst (v := 1) hx hb dX7_looks_81 (by decide) ?_
          refine cw_v (va_runV (As := [.int (((((tu (16 * a + k13)) + 4) - (tu (((16 * (nI b)) + (nI k13)) + kk).toNatClampNeg)) + (dd * (nI k13))) - ((((tu (16 * a + k13)) + 4) - (tu (((16 * (nI b)) + (nI k13)) + kk).toNatClampNeg)) + (dd * (nI k13))) / 4 * 4), .int 1]) (rest := []) ⟨hx, hb, hml, hown, hts⟩ (c_X7_add l D cI H.size h a0 a1 a3 a5 a6 a8 a12 sn tu fn we rn per rea wn rw bs re ot cp ab be hh (((((tu (16 * a + k13)) + 4) - (tu (((16 * (nI b)) + (nI k13)) + kk).toNatClampNeg)) + (dd * (nI k13))) - ((((tu (16 * a + k13)) + 4) - (tu (((16 * (nI b)) + (nI k13)) + kk).toNatClampNeg)) + (dd * (nI k13))) / 4 * 4) 1 ) (cwV 2 hts gX7_looks_X7_add rfl rfl rfl (by decide +kernel) ⟨(Nat.le_of_ble_eq_true rfl), (Nat.le_of_ble_eq_true rfl)⟩) (wr_preV hP hD hK rfl (q0 := 0) rfl) rfl rfl hl.1 rfl (lv_room (Nat.le_of_ble_eq_true rfl)) dX7_looks_82 ⟨Nat.zero_le _, Nat.zero_le _⟩) hP hD hS hA [0, 1, 2, 3, 4, 5, 6, 7] rfl rfl (fun H locs hP hD hS => ?_)
          have hP : va_P D vwCl [(h, .inr (5, [.ref a0, .ref a1, .int (nI fn), .ref a3, .int (nI rn), .ref a5, .ref a6, .int (nI wn), .ref a8, .int (nI bs), .int ((fX7_add re ot (((((tu (16 * a + k13)) + 4) - (tu (((16 * (nI b)) + (nI k13)) + kk).toNatClampNeg)) + (dd * (nI k13))) - ((((tu (16 * a + k13)) + 4) - (tu (((16 * (nI b)) + (nI k13)) + kk).toNatClampNeg)) + (dd * (nI k13))) / 4 * 4) 1).1), .int ((fX7_add re ot (((((tu (16 * a + k13)) + 4) - (tu (((16 * (nI b)) + (nI k13)) + kk).toNatClampNeg)) + (dd * (nI k13))) - ((((tu (16 * a + k13)) + 4) - (tu (((16 * (nI b)) + (nI k13)) + kk).toNatClampNeg)) + (dd * (nI k13))) / 4 * 4) 1).2), .ref a12, .long ab, .long be, .long hh])), (a0, .inl (cI, 6, .inl (fun i => nI (sn i)))), (a1, .inl (cI, 96, .inl tu)), (a3, .inl (cI, 24, .inl we)), (a5, .inl (cI, 4, .inl (fun i => nI (per i)))), (a6, .inl (cI, 4, .inl rea)), (a8, .inl (cI, 64, .inl rw)), (a12, .inl (cI, 16, .inl cp))] H := hP
          have hD : va_D A [(h, .inr (5, [.ref a0, .ref a1, .int (nI fn), .ref a3, .int (nI rn), .ref a5, .ref a6, .int (nI wn), .ref a8, .int (nI bs), .int ((fX7_add re ot (((((tu (16 * a + k13)) + 4) - (tu (((16 * (nI b)) + (nI k13)) + kk).toNatClampNeg)) + (dd * (nI k13))) - ((((tu (16 * a + k13)) + 4) - (tu (((16 * (nI b)) + (nI k13)) + kk).toNatClampNeg)) + (dd * (nI k13))) / 4 * 4) 1).1), .int ((fX7_add re ot (((((tu (16 * a + k13)) + 4) - (tu (((16 * (nI b)) + (nI k13)) + kk).toNatClampNeg)) + (dd * (nI k13))) - ((((tu (16 * a + k13)) + 4) - (tu (((16 * (nI b)) + (nI k13)) + kk).toNatClampNeg)) + (dd * (nI k13))) / 4 * 4) 1).2), .ref a12, .long ab, .long be, .long hh])), (a0, .inl (cI, 6, .inl (fun i => nI (sn i)))), (a1, .inl (cI, 96, .inl tu)), (a3, .inl (cI, 24, .inl we)), (a5, .inl (cI, 4, .inl (fun i => nI (per i)))), (a6, .inl (cI, 4, .inl rea)), (a8, .inl (cI, 64, .inl rw)), (a12, .inl (cI, 16, .inl cp))] := hD
          refine lv_iinc (v := nI (k13 + 1)) (lv' := [(5, .int (nI (k13 + 1))), (0, .ref h), (1, .int (nI a)), (2, .int (nI b)), (3, .int kk), (4, .int dd)]) hx hb dX7_looks_85 hl (k := 5) rfl (nI_1 _) (by decide) rfl (fun ls hl => ?_)
          refine lv_goto (tgt := 13) hx hb dX7_looks_88 (by decide) ?_
          exact ih13 (k13 + 1) ((fX7_add re ot (((((tu (16 * a + k13)) + 4) - (tu (((16 * (nI b)) + (nI k13)) + kk).toNatClampNeg)) + (dd * (nI k13))) - ((((tu (16 * a + k13)) + 4) - (tu (((16 * (nI b)) + (nI k13)) + kk).toNatClampNeg)) + (dd * (nI k13))) / 4 * 4) 1).1) ((fX7_add re ot (((((tu (16 * a + k13)) + 4) - (tu (((16 * (nI b)) + (nI k13)) + kk).toNatClampNeg)) + (dd * (nI k13))) - ((((tu (16 * a + k13)) + 4) - (tu (((16 * (nI b)) + (nI k13)) + kk).toNatClampNeg)) + (dd * (nI k13))) / 4 * 4) 1).2) H locs ls (by omega) (by omega) hP hD hS (lv_sub hl [1, 2, 3, 4, 5, 0] rfl) hF
  exact lp13 ((sn a) - 0) 0 0 0 H _ ls rfl (by omega) hP hD hS (lv_sub hl [1, 2, 3, 4, 5, 0] rfl) hF
def fX7_look (sn : Nat → Nat) (tu : Nat → Int32) (re : Int32) (ot : Int32) (xa : Int32) (xb : Int32) (xk : Int32) (xd : Int32) (xp : Int32) : Int32 × Int32 × Int32 := (if (fX7_isSign xa) = 0 then ((-1000), re, ot) else (if (fX7_isSign xb) = 0 then ((-1000), re, ot) else (if (fX7_in xk (-15) 15) = 0 then ((-1001), re, ot) else (if (fX7_in xd 0 3) = 0 then ((-1001), re, ot) else (if (fX7_in xp 0 1) = 0 then ((-1001), re, ot) else (if xp = 0 then ((fX7_looks sn tu (xa.toNatClampNeg) (xb.toNatClampNeg) xk xd).2.1, (fX7_looks sn tu (xa.toNatClampNeg) (xb.toNatClampNeg) xk xd).2.1, (fX7_looks sn tu (xa.toNatClampNeg) (xb.toNatClampNeg) xk xd).2.2) else ((fX7_looks sn tu (xa.toNatClampNeg) (xb.toNatClampNeg) xk xd).2.2, (fX7_looks sn tu (xa.toNatClampNeg) (xb.toNatClampNeg) xk xd).2.1, (fX7_looks sn tu (xa.toNatClampNeg) (xb.toNatClampNeg) xk xd).2.2)))))))
abbrev rmX7_look : Room := { frames := 2, cells := 0, slots := 0, locals := 47 }
set_option maxHeartbeats 4000000 in
set_option maxRecDepth 100000 in
theorem c_X7_look (l : Launch) (D : va_G) (cI : ClassId) (sz : Nat) (h : Nat) (a0 : Nat) (a1 : Nat) (a3 : Nat) (a5 : Nat) (a6 : Nat) (a8 : Nat) (a12 : Nat) (sn : Nat → Nat) (tu : Nat → Int32) (fn : Nat) (we : Nat → Int32) (rn : Nat) (per : Nat → Nat) (rea : Nat → Int32) (wn : Nat) (rw : Nat → Int32) (bs : Nat) (re : Int32) (ot : Int32) (cp : Nat → Int32) (ab : Int64) (be : Int64) (hh : Int64) (xa : Int32) (xb : Int32) (xk : Int32) (xd : Int32) (xp : Int32) (hsn : ∀ c, c < 6 → 1 ≤ sn c ∧ sn c ≤ 16) : Met l yX7_look wsX7_look rmX7_look (va_Pc [.ref h, .int xa, .int xb, .int xk, .int xd, .int xp] (wrP D [(cI, .int)] [(h, .inr (5, [.ref a0, .ref a1, .int (nI fn), .ref a3, .int (nI rn), .ref a5, .ref a6, .int (nI wn), .ref a8, .int (nI bs), .int re, .int ot, .ref a12, .long ab, .long be, .long hh])), (a0, .inl (cI, 6, .inl (fun i => nI (sn i)))), (a1, .inl (cI, 96, .inl tu)), (a3, .inl (cI, 24, .inl we)), (a5, .inl (cI, 4, .inl (fun i => nI (per i)))), (a6, .inl (cI, 4, .inl rea)), (a8, .inl (cI, 64, .inl rw)), (a12, .inl (cI, 16, .inl cp))] sz)) (va_Qi (fun r9 (_ : Unit) => r9 = (fX7_look sn tu re ot xa xb xk xd xp).1) (fun _ u9 => va_P D vwCl [(h, .inr (5, [.ref a0, .ref a1, .int (nI fn), .ref a3, .int (nI rn), .ref a5, .ref a6, .int (nI wn), .ref a8, .int (nI bs), .int ((fX7_look sn tu re ot xa xb xk xd xp).2.1), .int ((fX7_look sn tu re ot xa xb xk xd xp).2.2), .ref a12, .long ab, .long be, .long hh])), (a0, .inl (cI, 6, .inl (fun i => nI (sn i)))), (a1, .inl (cI, 96, .inl tu)), (a3, .inl (cI, 24, .inl we)), (a5, .inl (cI, 4, .inl (fun i => nI (per i)))), (a6, .inl (cI, 4, .inl rea)), (a8, .inl (cI, 64, .inl rw)), (a12, .inl (cI, 16, .inl cp))] u9.heap) (va_A [(h, .inr (5, [.ref a0, .ref a1, .int (nI fn), .ref a3, .int (nI rn), .ref a5, .ref a6, .int (nI wn), .ref a8, .int (nI bs), .int re, .int ot, .ref a12, .long ab, .long be, .long hh])), (a0, .inl (cI, 6, .inl (fun i => nI (sn i)))), (a1, .inl (cI, 96, .inl tu)), (a3, .inl (cI, 24, .inl we)), (a5, .inl (cI, 4, .inl (fun i => nI (per i)))), (a6, .inl (cI, 4, .inl rea)), (a8, .inl (cI, 64, .inl rw)), (a12, .inl (cI, 16, .inl cp))] sz)) 0 0 (va_A [(h, .inr (5, [.ref a0, .ref a1, .int (nI fn), .ref a3, .int (nI rn), .ref a5, .ref a6, .int (nI wn), .ref a8, .int (nI bs), .int re, .int ot, .ref a12, .long ab, .long be, .long hh])), (a0, .inl (cI, 6, .inl (fun i => nI (sn i)))), (a1, .inl (cI, 96, .inl tu)), (a3, .inl (cI, 24, .inl we)), (a5, .inl (cI, 4, .inl (fun i => nI (per i)))), (a6, .inl (cI, 4, .inl rea)), (a8, .inl (cI, 64, .inl rw)), (a12, .inl (cI, 16, .inl cp))] sz) := by
  generalize hF : fX7_look sn tu re ot xa xb xk xd xp = T
  refine Met.ofW (cc := cX7_look) (maxL := 6) (ret := (some .int)) (by decide) rfl ?_
  intro p e s m args below meth c s₁ B hml hv
  obtain ⟨rfl, hsz, hP, hK, hD0⟩ := hv
  have hx := B.exec
  have hb := B.bytes
  have hr := B.returns
  have hts := atoms_spec (ws := wsX7_look) B.pre
  have hown : s.vm.findClass RX7 = some m.cls := findClass_of_methodNamed B.named
  have hlocks := B.notSynchronized
  have hinX7 : ∀ w ∈ u_ws RX7 TX7 16, w ∈ wsX7_look := by decide +kernel
  have hf49 := hts (.fieldLink RX7 49 "PulseSignsModel" "other" "I") (by decide +kernel)
  have hf46 := hts (.fieldLink RX7 46 "PulseSignsModel" "real" "I") (by decide +kernel)
  subst hsz
  have hD := hD0.self (sz := s.heap.size)
  generalize hAe : va_A [(h, .inr (5, [.ref a0, .ref a1, .int (nI fn), .ref a3, .int (nI rn), .ref a5, .ref a6, .int (nI wn), .ref a8, .int (nI bs), .int re, .int ot, .ref a12, .long ab, .long be, .long hh])), (a0, .inl (cI, 6, .inl (fun i => nI (sn i)))), (a1, .inl (cI, 96, .inl tu)), (a3, .inl (cI, 24, .inl we)), (a5, .inl (cI, 4, .inl (fun i => nI (per i)))), (a6, .inl (cI, 4, .inl rea)), (a8, .inl (cI, 64, .inl rw)), (a12, .inl (cI, 16, .inl cp))] s.heap.size = A at hD ⊢
  have hA : ∀ q : Nat, s.heap.size ≤ q → A q := fun q h => by rw [← hAe]; exact Or.inr h
  have hS : va_S A s.heap s.heap [] := va_S.rf
  have hP : va_P D vwCl [(h, .inr (5, [.ref a0, .ref a1, .int (nI fn), .ref a3, .int (nI rn), .ref a5, .ref a6, .int (nI wn), .ref a8, .int (nI bs), .int re, .int ot, .ref a12, .long ab, .long be, .long hh])), (a0, .inl (cI, 6, .inl (fun i => nI (sn i)))), (a1, .inl (cI, 96, .inl tu)), (a3, .inl (cI, 24, .inl we)), (a5, .inl (cI, 4, .inl (fun i => nI (per i)))), (a6, .inl (cI, 4, .inl rea)), (a8, .inl (cI, 64, .inl rw)), (a12, .inl (cI, 16, .inl cp))] s.heap := hP
  have hl := lv_entry ([.ref h, .int xa, .int xb, .int xk, .int xd, .int xp]) (n := 6) (Nat.le_of_ble_eq_true rfl)
  rw [lg_entry_eq]
  generalize (lg_sl ([.ref h, .int xa, .int xb, .int xk, .int xd, .int xp]) ++ List.replicate (6 - (lg_sl ([.ref h, .int xa, .int xb, .int xk, .int xd, .int xp])).length) Slot.unset).toArray = ls at hl ⊢
  refine w_Q (fun Q hQ => ?_)
  have hl : lv_has ls 6 [(0, .ref h), (1, .int xa), (2, .int xb), (3, .int xk), (4, .int xd), (5, .int xp)] := hl
  rw [fX7_look] at hF
  refine lv_iload_n hx hb dX7_look_0 rfl (lv_at hl 1 rfl) ?_
  have hPc := hP.sub (ws' := []) [] rfl
  refine cs_i (va_runS (As := [.int xa]) (rest := []) ⟨hx, hb, hml, hown, hts⟩ (c_X7_isSign l D cI xa ) (va_cwS 1 hts gX7_look_X7_isSign rfl rfl rfl (by decide +kernel) ⟨(Nat.le_of_ble_eq_true rfl), (Nat.le_of_ble_eq_true rfl)⟩) (ro_pre hPc hK) rfl rfl hl.1 rfl (lv_room (Nat.le_of_ble_eq_true rfl)) dX7_look_1 ⟨Nat.zero_le _, Nat.zero_le _⟩) ?_
  refine lv_if_eq (tgt := 14) hx hb dX7_look_4 (by decide) (fun c4 => ?_) (fun c4 => ?_)
  · rw [if_pos c4] at hF
    refine lv_sipush (v := (-1000)) hx hb dX7_look_14 (by decide) ?_
    subst hF
    subst hQ
    exact W.iret (v := (-1000)) hx hb hr (fun u9 ht hW => ⟨⟨_, (), rfl, rfl, by rw [← ht] at hP; exact hP⟩, hS.F ht⟩) hS.2.2 dX7_look_17
  · rw [if_neg c4] at hF
    obtain ⟨an, han, rfl⟩ := sign_nat c4
    have e_an : (nI an).toNatClampNeg = an := nI_clamp (by omega)
    try simp only [e_an] at hF
    refine lv_iload_n hx hb dX7_look_7 rfl (lv_at hl 2 rfl) ?_
    have hPc := hP.sub (ws' := []) [] rfl
    refine cs_i (va_runS (As := [.int xb]) (rest := []) ⟨hx, hb, hml, hown, hts⟩ (c_X7_isSign l D cI xb ) (va_cwS 1 hts gX7_look_X7_isSign rfl rfl rfl (by decide +kernel) ⟨(Nat.le_of_ble_eq_true rfl), (Nat.le_of_ble_eq_true rfl)⟩) (ro_pre hPc hK) rfl rfl hl.1 rfl (lv_room (Nat.le_of_ble_eq_true rfl)) dX7_look_8 ⟨Nat.zero_le _, Nat.zero_le _⟩) ?_
    refine lv_if_ne (tgt := 18) hx hb dX7_look_11 (by decide) (fun c11 => ?_) (fun c11 => ?_)
    · rw [if_neg c11] at hF
      obtain ⟨bn, hbn, rfl⟩ := sign_nat c11
      have e_bn : (nI bn).toNatClampNeg = bn := nI_clamp (by omega)
      try simp only [e_bn] at hF
      refine lv_iload_n hx hb dX7_look_18 rfl (lv_at hl 3 rfl) ?_
      refine lv_bipush (v := (-15)) hx hb dX7_look_19 (by decide) ?_
      refine lv_bipush (v := 15) hx hb dX7_look_21 (by decide) ?_
      have hPc := hP.sub (ws' := []) [] rfl
      refine cs_i (va_runS (As := [.int xk, .int (-15), .int 15]) (rest := []) ⟨hx, hb, hml, hown, hts⟩ (c_X7_in l D cI xk (-15) 15 ) (va_cwS 3 hts gX7_look_X7_in rfl rfl rfl (by decide +kernel) ⟨(Nat.le_of_ble_eq_true rfl), (Nat.le_of_ble_eq_true rfl)⟩) (ro_pre hPc hK) rfl rfl hl.1 rfl (lv_room (Nat.le_of_ble_eq_true rfl)) dX7_look_23 ⟨Nat.zero_le _, Nat.zero_le _⟩) ?_
      refine lv_if_eq (tgt := 49) hx hb dX7_look_26 (by decide) (fun c26 => ?_) (fun c26 => ?_)
      · rw [if_pos c26] at hF
        refine lv_sipush (v := (-1001)) hx hb dX7_look_49 (by decide) ?_
        subst hF
        subst hQ
        exact W.iret (v := (-1001)) hx hb hr (fun u9 ht hW => ⟨⟨_, (), rfl, rfl, by rw [← ht] at hP; exact hP⟩, hS.F ht⟩) hS.2.2 dX7_look_52
      · rw [if_neg c26] at hF
        refine lv_iload hx hb dX7_look_29 (lv_at hl 4 rfl) ?_
        refine lv_iconst (v := 0) hx hb dX7_look_31 (by decide) ?_
        refine lv_iconst (v := 3) hx hb dX7_look_32 (by decide) ?_
        have hPc := hP.sub (ws' := []) [] rfl
        refine cs_i (va_runS (As := [.int xd, .int 0, .int 3]) (rest := []) ⟨hx, hb, hml, hown, hts⟩ (c_X7_in l D cI xd 0 3 ) (va_cwS 3 hts gX7_look_X7_in rfl rfl rfl (by decide +kernel) ⟨(Nat.le_of_ble_eq_true rfl), (Nat.le_of_ble_eq_true rfl)⟩) (ro_pre hPc hK) rfl rfl hl.1 rfl (lv_room (Nat.le_of_ble_eq_true rfl)) dX7_look_33 ⟨Nat.zero_le _, Nat.zero_le _⟩) ?_
        refine lv_if_eq (tgt := 49) hx hb dX7_look_36 (by decide) (fun c36 => ?_) (fun c36 => ?_)
        · rw [if_pos c36] at hF
          refine lv_sipush (v := (-1001)) hx hb dX7_look_49 (by decide) ?_
          subst hF
          subst hQ
          exact W.iret (v := (-1001)) hx hb hr (fun u9 ht hW => ⟨⟨_, (), rfl, rfl, by rw [← ht] at hP; exact hP⟩, hS.F ht⟩) hS.2.2 dX7_look_52
        · rw [if_neg c36] at hF
          refine lv_iload hx hb dX7_look_39 (lv_at hl 5 rfl) ?_
          refine lv_iconst (v := 0) hx hb dX7_look_41 (by decide) ?_
          refine lv_iconst (v := 1) hx hb dX7_look_42 (by decide) ?_
          have hPc := hP.sub (ws' := []) [] rfl
          refine cs_i (va_runS (As := [.int xp, .int 0, .int 1]) (rest := []) ⟨hx, hb, hml, hown, hts⟩ (c_X7_in l D cI xp 0 1 ) (va_cwS 3 hts gX7_look_X7_in rfl rfl rfl (by decide +kernel) ⟨(Nat.le_of_ble_eq_true rfl), (Nat.le_of_ble_eq_true rfl)⟩) (ro_pre hPc hK) rfl rfl hl.1 rfl (lv_room (Nat.le_of_ble_eq_true rfl)) dX7_look_43 ⟨Nat.zero_le _, Nat.zero_le _⟩) ?_
          refine lv_if_ne (tgt := 53) hx hb dX7_look_46 (by decide) (fun c46 => ?_) (fun c46 => ?_)
          · rw [if_neg c46] at hF
            refine lv_aload_n hx hb dX7_look_53 rfl (lv_at hl 0 rfl) ?_
            refine lv_iload_n hx hb dX7_look_54 rfl (lv_at hl 1 rfl) ?_
            refine lv_iload_n hx hb dX7_look_55 rfl (lv_at hl 2 rfl) ?_
            refine lv_iload_n hx hb dX7_look_56 rfl (lv_at hl 3 rfl) ?_
            refine lv_iload hx hb dX7_look_57 (lv_at hl 4 rfl) ?_
            refine cw_i (va_runV (As := [.int (nI an), .int (nI bn), .int xk, .int xd]) (rest := []) ⟨hx, hb, hml, hown, hts⟩ (c_X7_looks l D cI s.heap.size h a0 a1 a3 a5 a6 a8 a12 sn tu fn we rn per rea wn rw bs re ot cp ab be hh an bn xk xd (by first | assumption | omega) (by first | assumption | omega) (by first | assumption | omega)) (cwV 4 hts gX7_look_X7_looks rfl rfl rfl (by decide +kernel) ⟨(Nat.le_of_ble_eq_true rfl), (Nat.le_of_ble_eq_true rfl)⟩) (wr_preV hP hD hK rfl (q0 := 0) rfl) rfl rfl hl.1 rfl (lv_room (Nat.le_of_ble_eq_true rfl)) dX7_look_59 ⟨Nat.zero_le _, Nat.zero_le _⟩) hP hD hS hA [0, 1, 2, 3, 4, 5, 6, 7] rfl rfl (fun H locs hP hD hS => ?_)
            have hP : va_P D vwCl [(h, .inr (5, [.ref a0, .ref a1, .int (nI fn), .ref a3, .int (nI rn), .ref a5, .ref a6, .int (nI wn), .ref a8, .int (nI bs), .int ((fX7_looks sn tu an bn xk xd).2.1), .int ((fX7_looks sn tu an bn xk xd).2.2), .ref a12, .long ab, .long be, .long hh])), (a0, .inl (cI, 6, .inl (fun i => nI (sn i)))), (a1, .inl (cI, 96, .inl tu)), (a3, .inl (cI, 24, .inl we)), (a5, .inl (cI, 4, .inl (fun i => nI (per i)))), (a6, .inl (cI, 4, .inl rea)), (a8, .inl (cI, 64, .inl rw)), (a12, .inl (cI, 16, .inl cp))] H := hP
            have hD : va_D A [(h, .inr (5, [.ref a0, .ref a1, .int (nI fn), .ref a3, .int (nI rn), .ref a5, .ref a6, .int (nI wn), .ref a8, .int (nI bs), .int ((fX7_looks sn tu an bn xk xd).2.1), .int ((fX7_looks sn tu an bn xk xd).2.2), .ref a12, .long ab, .long be, .long hh])), (a0, .inl (cI, 6, .inl (fun i => nI (sn i)))), (a1, .inl (cI, 96, .inl tu)), (a3, .inl (cI, 24, .inl we)), (a5, .inl (cI, 4, .inl (fun i => nI (per i)))), (a6, .inl (cI, 4, .inl rea)), (a8, .inl (cI, 64, .inl rw)), (a12, .inl (cI, 16, .inl cp))] := hD
            refine lv_pop hx hb dX7_look_62 rfl ?_
            refine lv_iload hx hb dX7_look_63 (lv_at hl 5 rfl) ?_
            refine lv_if_ne (tgt := 75) hx hb dX7_look_65 (by decide) (fun c65 => ?_) (fun c65 => ?_)
            · rw [if_neg c65] at hF
              refine lv_aload_n hx hb dX7_look_75 rfl (lv_at hl 0 rfl) ?_
              refine va_get (D := D) (ci := 5) (v := .int ((fX7_looks sn tu an bn xk xd).2.2)) (C := RX7) (T := TX7) (N := 16) hx hb hts hinX7 hown hK.1 hP 0 rfl rfl 11 (by decide) hf49 (fun _ h9 => h9) rfl dX7_look_76 ?_
              subst hF
              subst hQ
              exact W.iret (v := (fX7_looks sn tu an bn xk xd).2.2) hx hb hr (fun u9 ht hW => ⟨⟨_, (), rfl, rfl, by rw [← ht] at hP; exact hP⟩, hS.F ht⟩) hS.2.2 dX7_look_79
            · rw [if_pos c65] at hF
              refine lv_aload_n hx hb dX7_look_68 rfl (lv_at hl 0 rfl) ?_
              refine va_get (D := D) (ci := 5) (v := .int ((fX7_looks sn tu an bn xk xd).2.1)) (C := RX7) (T := TX7) (N := 16) hx hb hts hinX7 hown hK.1 hP 0 rfl rfl 10 (by decide) hf46 (fun _ h9 => h9) rfl dX7_look_69 ?_
              refine lv_goto (tgt := 79) hx hb dX7_look_72 (by decide) ?_
              subst hF
              subst hQ
              exact W.iret (v := (fX7_looks sn tu an bn xk xd).2.1) hx hb hr (fun u9 ht hW => ⟨⟨_, (), rfl, rfl, by rw [← ht] at hP; exact hP⟩, hS.F ht⟩) hS.2.2 dX7_look_79
          · rw [if_pos c46] at hF
            refine lv_sipush (v := (-1001)) hx hb dX7_look_49 (by decide) ?_
            subst hF
            subst hQ
            exact W.iret (v := (-1001)) hx hb hr (fun u9 ht hW => ⟨⟨_, (), rfl, rfl, by rw [← ht] at hP; exact hP⟩, hS.F ht⟩) hS.2.2 dX7_look_52
    · rw [if_pos c11] at hF
      refine lv_sipush (v := (-1000)) hx hb dX7_look_14 (by decide) ?_
      subst hF
      subst hQ
      exact W.iret (v := (-1000)) hx hb hr (fun u9 ht hW => ⟨⟨_, (), rfl, rfl, by rw [← ht] at hP; exact hP⟩, hS.F ht⟩) hS.2.2 dX7_look_17
def F_X7_peakOf_4 (sn : Nat → Nat) (tu : Nat → Int32) (cc : Nat) : Nat → Nat → Int32 → Int32 → Int32 → (Int32 × Int32 × Int32)
  | 0, k4, x2, re, ot => (x2, re, ot)
  | r4 + 1, k4, x2, re, ot => (if ((fX7_looks sn tu cc cc (nI k4) 0).1) ≤ x2 then F_X7_peakOf_4 sn tu cc r4 (k4 + 1) x2 ((fX7_looks sn tu cc cc (nI k4) 0).2.1) ((fX7_looks sn tu cc cc (nI k4) 0).2.2) else F_X7_peakOf_4 sn tu cc r4 (k4 + 1) ((fX7_looks sn tu cc cc (nI k4) 0).1) ((fX7_looks sn tu cc cc (nI k4) 0).2.1) ((fX7_looks sn tu cc cc (nI k4) 0).2.2))
def fX7_peakOf (sn : Nat → Nat) (tu : Nat → Int32) (re : Int32) (ot : Int32) (cc : Nat) : Int32 × Int32 × Int32 := F_X7_peakOf_4 sn tu cc ((sn cc) - 1) 1 0 re ot
abbrev rmX7_peakOf : Room := { frames := 2, cells := 0, slots := 0, locals := 47 }
set_option maxHeartbeats 4000000 in
set_option maxRecDepth 100000 in
theorem c_X7_peakOf (l : Launch) (D : va_G) (cI : ClassId) (sz : Nat) (h : Nat) (a0 : Nat) (a1 : Nat) (a3 : Nat) (a5 : Nat) (a6 : Nat) (a8 : Nat) (a12 : Nat) (sn : Nat → Nat) (tu : Nat → Int32) (fn : Nat) (we : Nat → Int32) (rn : Nat) (per : Nat → Nat) (rea : Nat → Int32) (wn : Nat) (rw : Nat → Int32) (bs : Nat) (re : Int32) (ot : Int32) (cp : Nat → Int32) (ab : Int64) (be : Int64) (hh : Int64) (cc : Nat) (hsn : ∀ c, c < 6 → 1 ≤ sn c ∧ sn c ≤ 16) (hc6 : cc < 6) : Met l yX7_peakOf wsX7_peakOf rmX7_peakOf (va_Pc [.ref h, .int (nI cc)] (wrP D [(cI, .int)] [(h, .inr (5, [.ref a0, .ref a1, .int (nI fn), .ref a3, .int (nI rn), .ref a5, .ref a6, .int (nI wn), .ref a8, .int (nI bs), .int re, .int ot, .ref a12, .long ab, .long be, .long hh])), (a0, .inl (cI, 6, .inl (fun i => nI (sn i)))), (a1, .inl (cI, 96, .inl tu)), (a3, .inl (cI, 24, .inl we)), (a5, .inl (cI, 4, .inl (fun i => nI (per i)))), (a6, .inl (cI, 4, .inl rea)), (a8, .inl (cI, 64, .inl rw)), (a12, .inl (cI, 16, .inl cp))] sz)) (va_Qi (fun r9 (_ : Unit) => r9 = (fX7_peakOf sn tu re ot cc).1) (fun _ u9 => va_P D vwCl [(h, .inr (5, [.ref a0, .ref a1, .int (nI fn), .ref a3, .int (nI rn), .ref a5, .ref a6, .int (nI wn), .ref a8, .int (nI bs), .int ((fX7_peakOf sn tu re ot cc).2.1), .int ((fX7_peakOf sn tu re ot cc).2.2), .ref a12, .long ab, .long be, .long hh])), (a0, .inl (cI, 6, .inl (fun i => nI (sn i)))), (a1, .inl (cI, 96, .inl tu)), (a3, .inl (cI, 24, .inl we)), (a5, .inl (cI, 4, .inl (fun i => nI (per i)))), (a6, .inl (cI, 4, .inl rea)), (a8, .inl (cI, 64, .inl rw)), (a12, .inl (cI, 16, .inl cp))] u9.heap) (va_A [(h, .inr (5, [.ref a0, .ref a1, .int (nI fn), .ref a3, .int (nI rn), .ref a5, .ref a6, .int (nI wn), .ref a8, .int (nI bs), .int re, .int ot, .ref a12, .long ab, .long be, .long hh])), (a0, .inl (cI, 6, .inl (fun i => nI (sn i)))), (a1, .inl (cI, 96, .inl tu)), (a3, .inl (cI, 24, .inl we)), (a5, .inl (cI, 4, .inl (fun i => nI (per i)))), (a6, .inl (cI, 4, .inl rea)), (a8, .inl (cI, 64, .inl rw)), (a12, .inl (cI, 16, .inl cp))] sz)) 0 0 (va_A [(h, .inr (5, [.ref a0, .ref a1, .int (nI fn), .ref a3, .int (nI rn), .ref a5, .ref a6, .int (nI wn), .ref a8, .int (nI bs), .int re, .int ot, .ref a12, .long ab, .long be, .long hh])), (a0, .inl (cI, 6, .inl (fun i => nI (sn i)))), (a1, .inl (cI, 96, .inl tu)), (a3, .inl (cI, 24, .inl we)), (a5, .inl (cI, 4, .inl (fun i => nI (per i)))), (a6, .inl (cI, 4, .inl rea)), (a8, .inl (cI, 64, .inl rw)), (a12, .inl (cI, 16, .inl cp))] sz) := by
  generalize hF : fX7_peakOf sn tu re ot cc = T
  refine Met.ofW (cc := cX7_peakOf) (maxL := 5) (ret := (some .int)) (by decide) rfl ?_
  intro p e s m args below meth c s₁ B hml hv
  obtain ⟨rfl, hsz, hP, hK, hD0⟩ := hv
  have hx := B.exec
  have hb := B.bytes
  have hr := B.returns
  have hts := atoms_spec (ws := wsX7_peakOf) B.pre
  have hown : s.vm.findClass RX7 = some m.cls := findClass_of_methodNamed B.named
  have hlocks := B.notSynchronized
  have hinX7 : ∀ w ∈ u_ws RX7 TX7 16, w ∈ wsX7_peakOf := by decide +kernel
  have hf7 := hts (.fieldLink RX7 7 "PulseSignsModel" "sizes" "[I") (by decide +kernel)
  subst hsz
  have hD := hD0.self (sz := s.heap.size)
  generalize hAe : va_A [(h, .inr (5, [.ref a0, .ref a1, .int (nI fn), .ref a3, .int (nI rn), .ref a5, .ref a6, .int (nI wn), .ref a8, .int (nI bs), .int re, .int ot, .ref a12, .long ab, .long be, .long hh])), (a0, .inl (cI, 6, .inl (fun i => nI (sn i)))), (a1, .inl (cI, 96, .inl tu)), (a3, .inl (cI, 24, .inl we)), (a5, .inl (cI, 4, .inl (fun i => nI (per i)))), (a6, .inl (cI, 4, .inl rea)), (a8, .inl (cI, 64, .inl rw)), (a12, .inl (cI, 16, .inl cp))] s.heap.size = A at hD ⊢
  have hA : ∀ q : Nat, s.heap.size ≤ q → A q := fun q h => by rw [← hAe]; exact Or.inr h
  have hS : va_S A s.heap s.heap [] := va_S.rf
  have hP : va_P D vwCl [(h, .inr (5, [.ref a0, .ref a1, .int (nI fn), .ref a3, .int (nI rn), .ref a5, .ref a6, .int (nI wn), .ref a8, .int (nI bs), .int re, .int ot, .ref a12, .long ab, .long be, .long hh])), (a0, .inl (cI, 6, .inl (fun i => nI (sn i)))), (a1, .inl (cI, 96, .inl tu)), (a3, .inl (cI, 24, .inl we)), (a5, .inl (cI, 4, .inl (fun i => nI (per i)))), (a6, .inl (cI, 4, .inl rea)), (a8, .inl (cI, 64, .inl rw)), (a12, .inl (cI, 16, .inl cp))] s.heap := hP
  have hl := lv_entry ([.ref h, .int (nI cc)]) (n := 5) (Nat.le_of_ble_eq_true rfl)
  rw [lg_entry_eq]
  generalize (lg_sl ([.ref h, .int (nI cc)]) ++ List.replicate (5 - (lg_sl ([.ref h, .int (nI cc)])).length) Slot.unset).toArray = ls at hl ⊢
  refine w_Q (fun Q hQ => ?_)
  have hc16 := hsn cc hc6
  have hl : lv_has ls 5 [(0, .ref h), (1, .int (nI cc))] := hl
  rw [fX7_peakOf] at hF
  refine lv_iconst (v := 0) hx hb dX7_peakOf_0 (by decide) ?_
  refine lv_istore_n (lv' := [(2, .int 0), (0, .ref h), (1, .int (nI cc))]) hx hb dX7_peakOf_1 rfl hl (by decide) rfl (fun ls hl => ?_)
  refine lv_iconst (v := 1) hx hb dX7_peakOf_2 (by decide) ?_
  refine lv_istore_n (lv' := [(3, .int 1), (2, .int 0), (0, .ref h), (1, .int (nI cc))]) hx hb dX7_peakOf_3 rfl hl (by decide) rfl (fun ls hl => ?_)
  have lp4 : ∀ (r4 k4 : Nat) (x2 : Int32) (re : Int32) (ot : Int32) (H : Heap) (locs : List Loc) (ls : Array Slot), r4 = (sn cc) - k4 → k4 ≤ (sn cc) + 1 → va_P D vwCl [(h, .inr (5, [.ref a0, .ref a1, .int (nI fn), .ref a3, .int (nI rn), .ref a5, .ref a6, .int (nI wn), .ref a8, .int (nI bs), .int re, .int ot, .ref a12, .long ab, .long be, .long hh])), (a0, .inl (cI, 6, .inl (fun i => nI (sn i)))), (a1, .inl (cI, 96, .inl tu)), (a3, .inl (cI, 24, .inl we)), (a5, .inl (cI, 4, .inl (fun i => nI (per i)))), (a6, .inl (cI, 4, .inl rea)), (a8, .inl (cI, 64, .inl rw)), (a12, .inl (cI, 16, .inl cp))] H → va_D A [(h, .inr (5, [.ref a0, .ref a1, .int (nI fn), .ref a3, .int (nI rn), .ref a5, .ref a6, .int (nI wn), .ref a8, .int (nI bs), .int re, .int ot, .ref a12, .long ab, .long be, .long hh])), (a0, .inl (cI, 6, .inl (fun i => nI (sn i)))), (a1, .inl (cI, 96, .inl tu)), (a3, .inl (cI, 24, .inl we)), (a5, .inl (cI, 4, .inl (fun i => nI (per i)))), (a6, .inl (cI, 4, .inl rea)), (a8, .inl (cI, 64, .inl rw)), (a12, .inl (cI, 16, .inl cp))] → va_S A s.heap H locs → lv_has ls 5 [(0, .ref h), (1, .int (nI cc)), (2, .int x2), (3, .int (nI k4))] → F_X7_peakOf_4 sn tu cc r4 k4 x2 re ot = T → W p l e (headSpec wsX7_peakOf rmX7_peakOf).room s m ([.ref h, .int (nI cc)] : List Value).toArray below meth c H locs 0 0 Q (F0 m 4 ls []) := by
    intro r4
    induction r4 with
    | zero =>
      intro k4 x2 re ot H locs ls hi4_0 hi4_1 hP hD hS hl hF
      rw [F_X7_peakOf_4] at hF
      refine lv_iload_n hx hb dX7_peakOf_4 rfl (lv_at hl 3 rfl) ?_
      refine lv_aload_n hx hb dX7_peakOf_5 rfl (lv_at hl 0 rfl) ?_
      refine va_get (D := D) (ci := 5) (v := .ref a0) (C := RX7) (T := TX7) (N := 16) hx hb hts hinX7 hown hK.1 hP 0 rfl rfl 0 (by decide) hf7 (fun _ h9 => h9) rfl dX7_peakOf_6 ?_
      refine lv_iload_n hx hb dX7_peakOf_9 rfl (lv_at hl 1 rfl) ?_
      refine w_ald hx hb hK hP 1 0 rfl rfl (cc) rfl (by omega) (by omega) dX7_peakOf_10 ?_
      refine lv_icmp_ge (tgt := 43) hx hb dX7_peakOf_11 (by decide) (fun c11 => ?_) (fun c11 => ?_)
      · skip
        refine lv_iload_n hx hb dX7_peakOf_43 rfl (lv_at hl 2 rfl) ?_
        subst hF
        subst hQ
        exact W.iret (v := x2) hx hb hr (fun u9 ht hW => ⟨⟨_, (), rfl, rfl, by rw [← ht] at hP; exact hP⟩, hS.F ht⟩) hS.2.2 dX7_peakOf_44
      · exact False.elim (c11 (nI_le (a := (sn cc)) (b := k4) (by omega) (by omega)))
    | succ r4 ih4 =>
      intro k4 x2 re ot H locs ls hi4_0 hi4_1 hP hD hS hl hF
      rw [F_X7_peakOf_4] at hF
      refine lv_iload_n hx hb dX7_peakOf_4 rfl (lv_at hl 3 rfl) ?_
      refine lv_aload_n hx hb dX7_peakOf_5 rfl (lv_at hl 0 rfl) ?_
      refine va_get (D := D) (ci := 5) (v := .ref a0) (C := RX7) (T := TX7) (N := 16) hx hb hts hinX7 hown hK.1 hP 0 rfl rfl 0 (by decide) hf7 (fun _ h9 => h9) rfl dX7_peakOf_6 ?_
      refine lv_iload_n hx hb dX7_peakOf_9 rfl (lv_at hl 1 rfl) ?_
      refine w_ald hx hb hK hP 1 0 rfl rfl (cc) rfl (by omega) (by omega) dX7_peakOf_10 ?_
      refine lv_icmp_ge (tgt := 43) hx hb dX7_peakOf_11 (by decide) (fun c11 => ?_) (fun c11 => ?_)
      · exact False.elim (nI_ge (a := k4) (b := (sn cc)) (by omega) (by omega) c11)
      · skip
        refine lv_aload_n hx hb dX7_peakOf_14 rfl (lv_at hl 0 rfl) ?_
        refine lv_iload_n hx hb dX7_peakOf_15 rfl (lv_at hl 1 rfl) ?_
        refine lv_iload_n hx hb dX7_peakOf_16 rfl (lv_at hl 1 rfl) ?_
        refine lv_iload_n hx hb dX7_peakOf_17 rfl (lv_at hl 3 rfl) ?_
        refine lv_iconst (v := 0) hx hb dX7_peakOf_18 (by decide) ?_
        refine cw_i (va_runV (As := [.int (nI cc), .int (nI cc), .int (nI k4), .int 0]) (rest := []) ⟨hx, hb, hml, hown, hts⟩ (c_X7_looks l D cI H.size h a0 a1 a3 a5 a6 a8 a12 sn tu fn we rn per rea wn rw bs re ot cp ab be hh cc cc (nI k4) 0 (by first | assumption | omega) (by first | assumption | omega) (by first | assumption | omega)) (cwV 4 hts gX7_peakOf_X7_looks rfl rfl rfl (by decide +kernel) ⟨(Nat.le_of_ble_eq_true rfl), (Nat.le_of_ble_eq_true rfl)⟩) (wr_preV hP hD hK rfl (q0 := 0) rfl) rfl rfl hl.1 rfl (lv_room (Nat.le_of_ble_eq_true rfl)) dX7_peakOf_19 ⟨Nat.zero_le _, Nat.zero_le _⟩) hP hD hS hA [0, 1, 2, 3, 4, 5, 6, 7] rfl rfl (fun H locs hP hD hS => ?_)
        have hP : va_P D vwCl [(h, .inr (5, [.ref a0, .ref a1, .int (nI fn), .ref a3, .int (nI rn), .ref a5, .ref a6, .int (nI wn), .ref a8, .int (nI bs), .int ((fX7_looks sn tu cc cc (nI k4) 0).2.1), .int ((fX7_looks sn tu cc cc (nI k4) 0).2.2), .ref a12, .long ab, .long be, .long hh])), (a0, .inl (cI, 6, .inl (fun i => nI (sn i)))), (a1, .inl (cI, 96, .inl tu)), (a3, .inl (cI, 24, .inl we)), (a5, .inl (cI, 4, .inl (fun i => nI (per i)))), (a6, .inl (cI, 4, .inl rea)), (a8, .inl (cI, 64, .inl rw)), (a12, .inl (cI, 16, .inl cp))] H := hP
        have hD : va_D A [(h, .inr (5, [.ref a0, .ref a1, .int (nI fn), .ref a3, .int (nI rn), .ref a5, .ref a6, .int (nI wn), .ref a8, .int (nI bs), .int ((fX7_looks sn tu cc cc (nI k4) 0).2.1), .int ((fX7_looks sn tu cc cc (nI k4) 0).2.2), .ref a12, .long ab, .long be, .long hh])), (a0, .inl (cI, 6, .inl (fun i => nI (sn i)))), (a1, .inl (cI, 96, .inl tu)), (a3, .inl (cI, 24, .inl we)), (a5, .inl (cI, 4, .inl (fun i => nI (per i)))), (a6, .inl (cI, 4, .inl rea)), (a8, .inl (cI, 64, .inl rw)), (a12, .inl (cI, 16, .inl cp))] := hD
        refine lv_istore (lv' := [(4, .int ((fX7_looks sn tu cc cc (nI k4) 0).1)), (0, .ref h), (1, .int (nI cc)), (2, .int x2), (3, .int (nI k4))]) hx hb dX7_peakOf_22 hl (by decide) rfl (fun ls hl => ?_)
        refine lv_iload hx hb dX7_peakOf_24 (lv_at hl 0 rfl) ?_
        refine lv_iload_n hx hb dX7_peakOf_26 rfl (lv_at hl 3 rfl) ?_
        refine lv_icmp_le (tgt := 35) hx hb dX7_peakOf_27 (by decide) (fun c27 => ?_) (fun c27 => ?_)
        · rw [if_pos c27] at hF
          refine lv_iload_n hx hb dX7_peakOf_35 rfl (lv_at hl 3 rfl) ?_
          refine lv_istore_n (lv' := [(2, .int x2), (4, .int ((fX7_looks sn tu cc cc (nI k4) 0).1)), (0, .ref h), (1, .int (nI cc)), (3, .int (nI k4))]) hx hb dX7_peakOf_36 rfl hl (by decide) rfl (fun ls hl => ?_)
          refine lv_iinc (v := nI (k4 + 1)) (lv' := [(3, .int (nI (k4 + 1))), (2, .int x2), (4, .int ((fX7_looks sn tu cc cc (nI k4) 0).1)), (0, .ref h), (1, .int (nI cc))]) hx hb dX7_peakOf_37 hl (k := 4) rfl (nI_1 _) (by decide) rfl (fun ls hl => ?_)
          refine lv_goto (tgt := 4) hx hb dX7_peakOf_40 (by decide) ?_
          exact ih4 (k4 + 1) x2 ((fX7_looks sn tu cc cc (nI k4) 0).2.1) ((fX7_looks sn tu cc cc (nI k4) 0).2.2) H locs ls (by omega) (by omega) hP hD hS (lv_sub hl [3, 4, 1, 0] rfl) hF
        · rw [if_neg c27] at hF
          refine lv_iload hx hb dX7_peakOf_30 (lv_at hl 0 rfl) ?_
          refine lv_goto (tgt := 36) hx hb dX7_peakOf_32 (by decide) ?_
          refine lv_istore_n (lv' := [(2, .int ((fX7_looks sn tu cc cc (nI k4) 0).1)), (4, .int ((fX7_looks sn tu cc cc (nI k4) 0).1)), (0, .ref h), (1, .int (nI cc)), (3, .int (nI k4))]) hx hb dX7_peakOf_36 rfl hl (by decide) rfl (fun ls hl => ?_)
          refine lv_iinc (v := nI (k4 + 1)) (lv' := [(3, .int (nI (k4 + 1))), (2, .int ((fX7_looks sn tu cc cc (nI k4) 0).1)), (4, .int ((fX7_looks sn tu cc cc (nI k4) 0).1)), (0, .ref h), (1, .int (nI cc))]) hx hb dX7_peakOf_37 hl (k := 4) rfl (nI_1 _) (by decide) rfl (fun ls hl => ?_)
          refine lv_goto (tgt := 4) hx hb dX7_peakOf_40 (by decide) ?_
          exact ih4 (k4 + 1) ((fX7_looks sn tu cc cc (nI k4) 0).1) ((fX7_looks sn tu cc cc (nI k4) 0).2.1) ((fX7_looks sn tu cc cc (nI k4) 0).2.2) H locs ls (by omega) (by omega) hP hD hS (lv_sub hl [3, 4, 1, 0] rfl) hF
  exact lp4 ((sn cc) - 1) 1 0 re ot s.heap _ ls rfl (by omega) hP hD hS (lv_sub hl [2, 3, 1, 0] rfl) hF
def F_X7_flankOf_4 (sn : Nat → Nat) (tu : Nat → Int32) (cc : Nat) : Nat → Nat → Int32 → Int32 → Int32 → (Int32 × Int32 × Int32)
  | 0, k4, x2, re, ot => (x2, re, ot)
  | r4 + 1, k4, x2, re, ot => F_X7_flankOf_4 sn tu cc r4 (k4 + 1) (x2 + ((fX7_looks sn tu cc cc (nI k4) 0).1)) ((fX7_looks sn tu cc cc (nI k4) 0).2.1) ((fX7_looks sn tu cc cc (nI k4) 0).2.2)
def fX7_flankOf (sn : Nat → Nat) (tu : Nat → Int32) (re : Int32) (ot : Int32) (cc : Nat) : Int32 × Int32 × Int32 := F_X7_flankOf_4 sn tu cc ((sn cc) - 1) 1 0 re ot
abbrev rmX7_flankOf : Room := { frames := 2, cells := 0, slots := 0, locals := 47 }
set_option maxHeartbeats 4000000 in
set_option maxRecDepth 100000 in
theorem c_X7_flankOf (l : Launch) (D : va_G) (cI : ClassId) (sz : Nat) (h : Nat) (a0 : Nat) (a1 : Nat) (a3 : Nat) (a5 : Nat) (a6 : Nat) (a8 : Nat) (a12 : Nat) (sn : Nat → Nat) (tu : Nat → Int32) (fn : Nat) (we : Nat → Int32) (rn : Nat) (per : Nat → Nat) (rea : Nat → Int32) (wn : Nat) (rw : Nat → Int32) (bs : Nat) (re : Int32) (ot : Int32) (cp : Nat → Int32) (ab : Int64) (be : Int64) (hh : Int64) (cc : Nat) (hsn : ∀ c, c < 6 → 1 ≤ sn c ∧ sn c ≤ 16) (hc6 : cc < 6) : Met l yX7_flankOf wsX7_flankOf rmX7_flankOf (va_Pc [.ref h, .int (nI cc)] (wrP D [(cI, .int)] [(h, .inr (5, [.ref a0, .ref a1, .int (nI fn), .ref a3, .int (nI rn), .ref a5, .ref a6, .int (nI wn), .ref a8, .int (nI bs), .int re, .int ot, .ref a12, .long ab, .long be, .long hh])), (a0, .inl (cI, 6, .inl (fun i => nI (sn i)))), (a1, .inl (cI, 96, .inl tu)), (a3, .inl (cI, 24, .inl we)), (a5, .inl (cI, 4, .inl (fun i => nI (per i)))), (a6, .inl (cI, 4, .inl rea)), (a8, .inl (cI, 64, .inl rw)), (a12, .inl (cI, 16, .inl cp))] sz)) (va_Qi (fun r9 (_ : Unit) => r9 = (fX7_flankOf sn tu re ot cc).1) (fun _ u9 => va_P D vwCl [(h, .inr (5, [.ref a0, .ref a1, .int (nI fn), .ref a3, .int (nI rn), .ref a5, .ref a6, .int (nI wn), .ref a8, .int (nI bs), .int ((fX7_flankOf sn tu re ot cc).2.1), .int ((fX7_flankOf sn tu re ot cc).2.2), .ref a12, .long ab, .long be, .long hh])), (a0, .inl (cI, 6, .inl (fun i => nI (sn i)))), (a1, .inl (cI, 96, .inl tu)), (a3, .inl (cI, 24, .inl we)), (a5, .inl (cI, 4, .inl (fun i => nI (per i)))), (a6, .inl (cI, 4, .inl rea)), (a8, .inl (cI, 64, .inl rw)), (a12, .inl (cI, 16, .inl cp))] u9.heap) (va_A [(h, .inr (5, [.ref a0, .ref a1, .int (nI fn), .ref a3, .int (nI rn), .ref a5, .ref a6, .int (nI wn), .ref a8, .int (nI bs), .int re, .int ot, .ref a12, .long ab, .long be, .long hh])), (a0, .inl (cI, 6, .inl (fun i => nI (sn i)))), (a1, .inl (cI, 96, .inl tu)), (a3, .inl (cI, 24, .inl we)), (a5, .inl (cI, 4, .inl (fun i => nI (per i)))), (a6, .inl (cI, 4, .inl rea)), (a8, .inl (cI, 64, .inl rw)), (a12, .inl (cI, 16, .inl cp))] sz)) 0 0 (va_A [(h, .inr (5, [.ref a0, .ref a1, .int (nI fn), .ref a3, .int (nI rn), .ref a5, .ref a6, .int (nI wn), .ref a8, .int (nI bs), .int re, .int ot, .ref a12, .long ab, .long be, .long hh])), (a0, .inl (cI, 6, .inl (fun i => nI (sn i)))), (a1, .inl (cI, 96, .inl tu)), (a3, .inl (cI, 24, .inl we)), (a5, .inl (cI, 4, .inl (fun i => nI (per i)))), (a6, .inl (cI, 4, .inl rea)), (a8, .inl (cI, 64, .inl rw)), (a12, .inl (cI, 16, .inl cp))] sz) := by
  generalize hF : fX7_flankOf sn tu re ot cc = T
  refine Met.ofW (cc := cX7_flankOf) (maxL := 4) (ret := (some .int)) (by decide) rfl ?_
  intro p e s m args below meth c s₁ B hml hv
  obtain ⟨rfl, hsz, hP, hK, hD0⟩ := hv
  have hx := B.exec
  have hb := B.bytes
  have hr := B.returns
  have hts := atoms_spec (ws := wsX7_flankOf) B.pre
  have hown : s.vm.findClass RX7 = some m.cls := findClass_of_methodNamed B.named
  have hlocks := B.notSynchronized
  have hinX7 : ∀ w ∈ u_ws RX7 TX7 16, w ∈ wsX7_flankOf := by decide +kernel
  have hf7 := hts (.fieldLink RX7 7 "PulseSignsModel" "sizes" "[I") (by decide +kernel)
  subst hsz
  have hD := hD0.self (sz := s.heap.size)
  generalize hAe : va_A [(h, .inr (5, [.ref a0, .ref a1, .int (nI fn), .ref a3, .int (nI rn), .ref a5, .ref a6, .int (nI wn), .ref a8, .int (nI bs), .int re, .int ot, .ref a12, .long ab, .long be, .long hh])), (a0, .inl (cI, 6, .inl (fun i => nI (sn i)))), (a1, .inl (cI, 96, .inl tu)), (a3, .inl (cI, 24, .inl we)), (a5, .inl (cI, 4, .inl (fun i => nI (per i)))), (a6, .inl (cI, 4, .inl rea)), (a8, .inl (cI, 64, .inl rw)), (a12, .inl (cI, 16, .inl cp))] s.heap.size = A at hD ⊢
  have hA : ∀ q : Nat, s.heap.size ≤ q → A q := fun q h => by rw [← hAe]; exact Or.inr h
  have hS : va_S A s.heap s.heap [] := va_S.rf
  have hP : va_P D vwCl [(h, .inr (5, [.ref a0, .ref a1, .int (nI fn), .ref a3, .int (nI rn), .ref a5, .ref a6, .int (nI wn), .ref a8, .int (nI bs), .int re, .int ot, .ref a12, .long ab, .long be, .long hh])), (a0, .inl (cI, 6, .inl (fun i => nI (sn i)))), (a1, .inl (cI, 96, .inl tu)), (a3, .inl (cI, 24, .inl we)), (a5, .inl (cI, 4, .inl (fun i => nI (per i)))), (a6, .inl (cI, 4, .inl rea)), (a8, .inl (cI, 64, .inl rw)), (a12, .inl (cI, 16, .inl cp))] s.heap := hP
  have hl := lv_entry ([.ref h, .int (nI cc)]) (n := 4) (Nat.le_of_ble_eq_true rfl)
  rw [lg_entry_eq]
  generalize (lg_sl ([.ref h, .int (nI cc)]) ++ List.replicate (4 - (lg_sl ([.ref h, .int (nI cc)])).length) Slot.unset).toArray = ls at hl ⊢
  refine w_Q (fun Q hQ => ?_)
  have hc16 := hsn cc hc6
  have hl : lv_has ls 4 [(0, .ref h), (1, .int (nI cc))] := hl
  rw [fX7_flankOf] at hF
  refine lv_iconst (v := 0) hx hb dX7_flankOf_0 (by decide) ?_
  refine lv_istore_n (lv' := [(2, .int 0), (0, .ref h), (1, .int (nI cc))]) hx hb dX7_flankOf_1 rfl hl (by decide) rfl (fun ls hl => ?_)
  refine lv_iconst (v := 1) hx hb dX7_flankOf_2 (by decide) ?_
  refine lv_istore_n (lv' := [(3, .int 1), (2, .int 0), (0, .ref h), (1, .int (nI cc))]) hx hb dX7_flankOf_3 rfl hl (by decide) rfl (fun ls hl => ?_)
  have lp4 : ∀ (r4 k4 : Nat) (x2 : Int32) (re : Int32) (ot : Int32) (H : Heap) (locs : List Loc) (ls : Array Slot), r4 = (sn cc) - k4 → k4 ≤ (sn cc) + 1 → va_P D vwCl [(h, .inr (5, [.ref a0, .ref a1, .int (nI fn), .ref a3, .int (nI rn), .ref a5, .ref a6, .int (nI wn), .ref a8, .int (nI bs), .int re, .int ot, .ref a12, .long ab, .long be, .long hh])), (a0, .inl (cI, 6, .inl (fun i => nI (sn i)))), (a1, .inl (cI, 96, .inl tu)), (a3, .inl (cI, 24, .inl we)), (a5, .inl (cI, 4, .inl (fun i => nI (per i)))), (a6, .inl (cI, 4, .inl rea)), (a8, .inl (cI, 64, .inl rw)), (a12, .inl (cI, 16, .inl cp))] H → va_D A [(h, .inr (5, [.ref a0, .ref a1, .int (nI fn), .ref a3, .int (nI rn), .ref a5, .ref a6, .int (nI wn), .ref a8, .int (nI bs), .int re, .int ot, .ref a12, .long ab, .long be, .long hh])), (a0, .inl (cI, 6, .inl (fun i => nI (sn i)))), (a1, .inl (cI, 96, .inl tu)), (a3, .inl (cI, 24, .inl we)), (a5, .inl (cI, 4, .inl (fun i => nI (per i)))), (a6, .inl (cI, 4, .inl rea)), (a8, .inl (cI, 64, .inl rw)), (a12, .inl (cI, 16, .inl cp))] → va_S A s.heap H locs → lv_has ls 4 [(0, .ref h), (1, .int (nI cc)), (2, .int x2), (3, .int (nI k4))] → F_X7_flankOf_4 sn tu cc r4 k4 x2 re ot = T → W p l e (headSpec wsX7_flankOf rmX7_flankOf).room s m ([.ref h, .int (nI cc)] : List Value).toArray below meth c H locs 0 0 Q (F0 m 4 ls []) := by
    intro r4
    induction r4 with
    | zero =>
      intro k4 x2 re ot H locs ls hi4_0 hi4_1 hP hD hS hl hF
      rw [F_X7_flankOf_4] at hF
      refine lv_iload_n hx hb dX7_flankOf_4 rfl (lv_at hl 3 rfl) ?_
      refine lv_aload_n hx hb dX7_flankOf_5 rfl (lv_at hl 0 rfl) ?_
      refine va_get (D := D) (ci := 5) (v := .ref a0) (C := RX7) (T := TX7) (N := 16) hx hb hts hinX7 hown hK.1 hP 0 rfl rfl 0 (by decide) hf7 (fun _ h9 => h9) rfl dX7_flankOf_6 ?_
      refine lv_iload_n hx hb dX7_flankOf_9 rfl (lv_at hl 1 rfl) ?_
      refine w_ald hx hb hK hP 1 0 rfl rfl (cc) rfl (by omega) (by omega) dX7_flankOf_10 ?_
      refine lv_icmp_ge (tgt := 31) hx hb dX7_flankOf_11 (by decide) (fun c11 => ?_) (fun c11 => ?_)
      · skip
        refine lv_iload_n hx hb dX7_flankOf_31 rfl (lv_at hl 2 rfl) ?_
        subst hF
        subst hQ
        exact W.iret (v := x2) hx hb hr (fun u9 ht hW => ⟨⟨_, (), rfl, rfl, by rw [← ht] at hP; exact hP⟩, hS.F ht⟩) hS.2.2 dX7_flankOf_32
      · exact False.elim (c11 (nI_le (a := (sn cc)) (b := k4) (by omega) (by omega)))
    | succ r4 ih4 =>
      intro k4 x2 re ot H locs ls hi4_0 hi4_1 hP hD hS hl hF
      rw [F_X7_flankOf_4] at hF
      refine lv_iload_n hx hb dX7_flankOf_4 rfl (lv_at hl 3 rfl) ?_
      refine lv_aload_n hx hb dX7_flankOf_5 rfl (lv_at hl 0 rfl) ?_
      refine va_get (D := D) (ci := 5) (v := .ref a0) (C := RX7) (T := TX7) (N := 16) hx hb hts hinX7 hown hK.1 hP 0 rfl rfl 0 (by decide) hf7 (fun _ h9 => h9) rfl dX7_flankOf_6 ?_
      refine lv_iload_n hx hb dX7_flankOf_9 rfl (lv_at hl 1 rfl) ?_
      refine w_ald hx hb hK hP 1 0 rfl rfl (cc) rfl (by omega) (by omega) dX7_flankOf_10 ?_
      refine lv_icmp_ge (tgt := 31) hx hb dX7_flankOf_11 (by decide) (fun c11 => ?_) (fun c11 => ?_)
      · exact False.elim (nI_ge (a := k4) (b := (sn cc)) (by omega) (by omega) c11)
      · skip
        refine lv_iload_n hx hb dX7_flankOf_14 rfl (lv_at hl 2 rfl) ?_
        refine lv_aload_n hx hb dX7_flankOf_15 rfl (lv_at hl 0 rfl) ?_
        refine lv_iload_n hx hb dX7_flankOf_16 rfl (lv_at hl 1 rfl) ?_
        refine lv_iload_n hx hb dX7_flankOf_17 rfl (lv_at hl 1 rfl) ?_
        refine lv_iload_n hx hb dX7_flankOf_18 rfl (lv_at hl 3 rfl) ?_
        refine lv_iconst (v := 0) hx hb dX7_flankOf_19 (by decide) ?_
        refine cw_i (va_runV (As := [.int (nI cc), .int (nI cc), .int (nI k4), .int 0]) (rest := [.int x2]) ⟨hx, hb, hml, hown, hts⟩ (c_X7_looks l D cI H.size h a0 a1 a3 a5 a6 a8 a12 sn tu fn we rn per rea wn rw bs re ot cp ab be hh cc cc (nI k4) 0 (by first | assumption | omega) (by first | assumption | omega) (by first | assumption | omega)) (cwV 4 hts gX7_flankOf_X7_looks rfl rfl rfl (by decide +kernel) ⟨(Nat.le_of_ble_eq_true rfl), (Nat.le_of_ble_eq_true rfl)⟩) (wr_preV hP hD hK rfl (q0 := 0) rfl) rfl rfl hl.1 rfl (lv_room (Nat.le_of_ble_eq_true rfl)) dX7_flankOf_20 ⟨Nat.zero_le _, Nat.zero_le _⟩) hP hD hS hA [0, 1, 2, 3, 4, 5, 6, 7] rfl rfl (fun H locs hP hD hS => ?_)
        have hP : va_P D vwCl [(h, .inr (5, [.ref a0, .ref a1, .int (nI fn), .ref a3, .int (nI rn), .ref a5, .ref a6, .int (nI wn), .ref a8, .int (nI bs), .int ((fX7_looks sn tu cc cc (nI k4) 0).2.1), .int ((fX7_looks sn tu cc cc (nI k4) 0).2.2), .ref a12, .long ab, .long be, .long hh])), (a0, .inl (cI, 6, .inl (fun i => nI (sn i)))), (a1, .inl (cI, 96, .inl tu)), (a3, .inl (cI, 24, .inl we)), (a5, .inl (cI, 4, .inl (fun i => nI (per i)))), (a6, .inl (cI, 4, .inl rea)), (a8, .inl (cI, 64, .inl rw)), (a12, .inl (cI, 16, .inl cp))] H := hP
        have hD : va_D A [(h, .inr (5, [.ref a0, .ref a1, .int (nI fn), .ref a3, .int (nI rn), .ref a5, .ref a6, .int (nI wn), .ref a8, .int (nI bs), .int ((fX7_looks sn tu cc cc (nI k4) 0).2.1), .int ((fX7_looks sn tu cc cc (nI k4) 0).2.2), .ref a12, .long ab, .long be, .long hh])), (a0, .inl (cI, 6, .inl (fun i => nI (sn i)))), (a1, .inl (cI, 96, .inl tu)), (a3, .inl (cI, 24, .inl we)), (a5, .inl (cI, 4, .inl (fun i => nI (per i)))), (a6, .inl (cI, 4, .inl rea)), (a8, .inl (cI, 64, .inl rw)), (a12, .inl (cI, 16, .inl cp))] := hD
        refine lv_iadd hx hb dX7_flankOf_23 ?_
        refine lv_istore_n (lv' := [(2, .int (x2 + ((fX7_looks sn tu cc cc (nI k4) 0).1))), (0, .ref h), (1, .int (nI cc)), (3, .int (nI k4))]) hx hb dX7_flankOf_24 rfl hl (by decide) rfl (fun ls hl => ?_)
        refine lv_iinc (v := nI (k4 + 1)) (lv' := [(3, .int (nI (k4 + 1))), (2, .int (x2 + ((fX7_looks sn tu cc cc (nI k4) 0).1))), (0, .ref h), (1, .int (nI cc))]) hx hb dX7_flankOf_25 hl (k := 3) rfl (nI_1 _) (by decide) rfl (fun ls hl => ?_)
        refine lv_goto (tgt := 4) hx hb dX7_flankOf_28 (by decide) ?_
        exact ih4 (k4 + 1) (x2 + ((fX7_looks sn tu cc cc (nI k4) 0).1)) ((fX7_looks sn tu cc cc (nI k4) 0).2.1) ((fX7_looks sn tu cc cc (nI k4) 0).2.2) H locs ls (by omega) (by omega) hP hD hS (lv_sub hl [2, 3, 1, 0] rfl) hF
  exact lp4 ((sn cc) - 1) 1 0 re ot s.heap _ ls rfl (by omega) hP hD hS (lv_sub hl [2, 3, 1, 0] rfl) hF
def fX7_peak (sn : Nat → Nat) (tu : Nat → Int32) (re : Int32) (ot : Int32) (xc : Int32) : Int32 × Int32 × Int32 := (if (fX7_isSign xc) = 0 then ((-101), re, ot) else ((fX7_peakOf sn tu re ot (xc.toNatClampNeg)).1, (fX7_peakOf sn tu re ot (xc.toNatClampNeg)).2.1, (fX7_peakOf sn tu re ot (xc.toNatClampNeg)).2.2))
abbrev rmX7_peak : Room := { frames := 3, cells := 0, slots := 0, locals := 71 }
set_option maxHeartbeats 4000000 in
set_option maxRecDepth 100000 in
theorem c_X7_peak (l : Launch) (D : va_G) (cI : ClassId) (sz : Nat) (h : Nat) (a0 : Nat) (a1 : Nat) (a3 : Nat) (a5 : Nat) (a6 : Nat) (a8 : Nat) (a12 : Nat) (sn : Nat → Nat) (tu : Nat → Int32) (fn : Nat) (we : Nat → Int32) (rn : Nat) (per : Nat → Nat) (rea : Nat → Int32) (wn : Nat) (rw : Nat → Int32) (bs : Nat) (re : Int32) (ot : Int32) (cp : Nat → Int32) (ab : Int64) (be : Int64) (hh : Int64) (xc : Int32) (hsn : ∀ c, c < 6 → 1 ≤ sn c ∧ sn c ≤ 16) : Met l yX7_peak wsX7_peak rmX7_peak (va_Pc [.ref h, .int xc] (wrP D [(cI, .int)] [(h, .inr (5, [.ref a0, .ref a1, .int (nI fn), .ref a3, .int (nI rn), .ref a5, .ref a6, .int (nI wn), .ref a8, .int (nI bs), .int re, .int ot, .ref a12, .long ab, .long be, .long hh])), (a0, .inl (cI, 6, .inl (fun i => nI (sn i)))), (a1, .inl (cI, 96, .inl tu)), (a3, .inl (cI, 24, .inl we)), (a5, .inl (cI, 4, .inl (fun i => nI (per i)))), (a6, .inl (cI, 4, .inl rea)), (a8, .inl (cI, 64, .inl rw)), (a12, .inl (cI, 16, .inl cp))] sz)) (va_Qi (fun r9 (_ : Unit) => r9 = (fX7_peak sn tu re ot xc).1) (fun _ u9 => va_P D vwCl [(h, .inr (5, [.ref a0, .ref a1, .int (nI fn), .ref a3, .int (nI rn), .ref a5, .ref a6, .int (nI wn), .ref a8, .int (nI bs), .int ((fX7_peak sn tu re ot xc).2.1), .int ((fX7_peak sn tu re ot xc).2.2), .ref a12, .long ab, .long be, .long hh])), (a0, .inl (cI, 6, .inl (fun i => nI (sn i)))), (a1, .inl (cI, 96, .inl tu)), (a3, .inl (cI, 24, .inl we)), (a5, .inl (cI, 4, .inl (fun i => nI (per i)))), (a6, .inl (cI, 4, .inl rea)), (a8, .inl (cI, 64, .inl rw)), (a12, .inl (cI, 16, .inl cp))] u9.heap) (va_A [(h, .inr (5, [.ref a0, .ref a1, .int (nI fn), .ref a3, .int (nI rn), .ref a5, .ref a6, .int (nI wn), .ref a8, .int (nI bs), .int re, .int ot, .ref a12, .long ab, .long be, .long hh])), (a0, .inl (cI, 6, .inl (fun i => nI (sn i)))), (a1, .inl (cI, 96, .inl tu)), (a3, .inl (cI, 24, .inl we)), (a5, .inl (cI, 4, .inl (fun i => nI (per i)))), (a6, .inl (cI, 4, .inl rea)), (a8, .inl (cI, 64, .inl rw)), (a12, .inl (cI, 16, .inl cp))] sz)) 0 0 (va_A [(h, .inr (5, [.ref a0, .ref a1, .int (nI fn), .ref a3, .int (nI rn), .ref a5, .ref a6, .int (nI wn), .ref a8, .int (nI bs), .int re, .int ot, .ref a12, .long ab, .long be, .long hh])), (a0, .inl (cI, 6, .inl (fun i => nI (sn i)))), (a1, .inl (cI, 96, .inl tu)), (a3, .inl (cI, 24, .inl we)), (a5, .inl (cI, 4, .inl (fun i => nI (per i)))), (a6, .inl (cI, 4, .inl rea)), (a8, .inl (cI, 64, .inl rw)), (a12, .inl (cI, 16, .inl cp))] sz) := by
  generalize hF : fX7_peak sn tu re ot xc = T
  refine Met.ofW (cc := cX7_peak) (maxL := 2) (ret := (some .int)) (by decide) rfl ?_
  intro p e s m args below meth c s₁ B hml hv
  obtain ⟨rfl, hsz, hP, hK, hD0⟩ := hv
  have hx := B.exec
  have hb := B.bytes
  have hr := B.returns
  have hts := atoms_spec (ws := wsX7_peak) B.pre
  have hown : s.vm.findClass RX7 = some m.cls := findClass_of_methodNamed B.named
  have hlocks := B.notSynchronized
  subst hsz
  have hD := hD0.self (sz := s.heap.size)
  generalize hAe : va_A [(h, .inr (5, [.ref a0, .ref a1, .int (nI fn), .ref a3, .int (nI rn), .ref a5, .ref a6, .int (nI wn), .ref a8, .int (nI bs), .int re, .int ot, .ref a12, .long ab, .long be, .long hh])), (a0, .inl (cI, 6, .inl (fun i => nI (sn i)))), (a1, .inl (cI, 96, .inl tu)), (a3, .inl (cI, 24, .inl we)), (a5, .inl (cI, 4, .inl (fun i => nI (per i)))), (a6, .inl (cI, 4, .inl rea)), (a8, .inl (cI, 64, .inl rw)), (a12, .inl (cI, 16, .inl cp))] s.heap.size = A at hD ⊢
  have hA : ∀ q : Nat, s.heap.size ≤ q → A q := fun q h => by rw [← hAe]; exact Or.inr h
  have hS : va_S A s.heap s.heap [] := va_S.rf
  have hP : va_P D vwCl [(h, .inr (5, [.ref a0, .ref a1, .int (nI fn), .ref a3, .int (nI rn), .ref a5, .ref a6, .int (nI wn), .ref a8, .int (nI bs), .int re, .int ot, .ref a12, .long ab, .long be, .long hh])), (a0, .inl (cI, 6, .inl (fun i => nI (sn i)))), (a1, .inl (cI, 96, .inl tu)), (a3, .inl (cI, 24, .inl we)), (a5, .inl (cI, 4, .inl (fun i => nI (per i)))), (a6, .inl (cI, 4, .inl rea)), (a8, .inl (cI, 64, .inl rw)), (a12, .inl (cI, 16, .inl cp))] s.heap := hP
  have hl := lv_entry ([.ref h, .int xc]) (n := 2) (Nat.le_of_ble_eq_true rfl)
  rw [lg_entry_eq]
  generalize (lg_sl ([.ref h, .int xc]) ++ List.replicate (2 - (lg_sl ([.ref h, .int xc])).length) Slot.unset).toArray = ls at hl ⊢
  refine w_Q (fun Q hQ => ?_)
  have hl : lv_has ls 2 [(0, .ref h), (1, .int xc)] := hl
  rw [fX7_peak] at hF
  refine lv_iload_n hx hb dX7_peak_0 rfl (lv_at hl 1 rfl) ?_
  have hPc := hP.sub (ws' := []) [] rfl
  refine cs_i (va_runS (As := [.int xc]) (rest := []) ⟨hx, hb, hml, hown, hts⟩ (c_X7_isSign l D cI xc ) (va_cwS 1 hts gX7_peak_X7_isSign rfl rfl rfl (by decide +kernel) ⟨(Nat.le_of_ble_eq_true rfl), (Nat.le_of_ble_eq_true rfl)⟩) (ro_pre hPc hK) rfl rfl hl.1 rfl (lv_room (Nat.le_of_ble_eq_true rfl)) dX7_peak_1 ⟨Nat.zero_le _, Nat.zero_le _⟩) ?_
  refine lv_if_eq (tgt := 15) hx hb dX7_peak_4 (by decide) (fun c4 => ?_) (fun c4 => ?_)
  · rw [if_pos c4] at hF
    refine lv_bipush (v := (-101)) hx hb dX7_peak_15 (by decide) ?_
    subst hF
    subst hQ
    exact W.iret (v := (-101)) hx hb hr (fun u9 ht hW => ⟨⟨_, (), rfl, rfl, by rw [← ht] at hP; exact hP⟩, hS.F ht⟩) hS.2.2 dX7_peak_17
  · rw [if_neg c4] at hF
    obtain ⟨cn, hcn, rfl⟩ := sign_nat c4
    have e_cn : (nI cn).toNatClampNeg = cn := nI_clamp (by omega)
    try simp only [e_cn] at hF
    refine lv_aload_n hx hb dX7_peak_7 rfl (lv_at hl 0 rfl) ?_
    refine lv_iload_n hx hb dX7_peak_8 rfl (lv_at hl 1 rfl) ?_
    refine cw_i (va_runV (As := [.int (nI cn)]) (rest := []) ⟨hx, hb, hml, hown, hts⟩ (c_X7_peakOf l D cI s.heap.size h a0 a1 a3 a5 a6 a8 a12 sn tu fn we rn per rea wn rw bs re ot cp ab be hh cn (by first | assumption | omega) (by first | assumption | omega)) (cwV 1 hts gX7_peak_X7_peakOf rfl rfl rfl (by decide +kernel) ⟨(Nat.le_of_ble_eq_true rfl), (Nat.le_of_ble_eq_true rfl)⟩) (wr_preV hP hD hK rfl (q0 := 0) rfl) rfl rfl hl.1 rfl (lv_room (Nat.le_of_ble_eq_true rfl)) dX7_peak_9 ⟨Nat.zero_le _, Nat.zero_le _⟩) hP hD hS hA [0, 1, 2, 3, 4, 5, 6, 7] rfl rfl (fun H locs hP hD hS => ?_)
    have hP : va_P D vwCl [(h, .inr (5, [.ref a0, .ref a1, .int (nI fn), .ref a3, .int (nI rn), .ref a5, .ref a6, .int (nI wn), .ref a8, .int (nI bs), .int ((fX7_peakOf sn tu re ot cn).2.1), .int ((fX7_peakOf sn tu re ot cn).2.2), .ref a12, .long ab, .long be, .long hh])), (a0, .inl (cI, 6, .inl (fun i => nI (sn i)))), (a1, .inl (cI, 96, .inl tu)), (a3, .inl (cI, 24, .inl we)), (a5, .inl (cI, 4, .inl (fun i => nI (per i)))), (a6, .inl (cI, 4, .inl rea)), (a8, .inl (cI, 64, .inl rw)), (a12, .inl (cI, 16, .inl cp))] H := hP
    have hD : va_D A [(h, .inr (5, [.ref a0, .ref a1, .int (nI fn), .ref a3, .int (nI rn), .ref a5, .ref a6, .int (nI wn), .ref a8, .int (nI bs), .int ((fX7_peakOf sn tu re ot cn).2.1), .int ((fX7_peakOf sn tu re ot cn).2.2), .ref a12, .long ab, .long be, .long hh])), (a0, .inl (cI, 6, .inl (fun i => nI (sn i)))), (a1, .inl (cI, 96, .inl tu)), (a3, .inl (cI, 24, .inl we)), (a5, .inl (cI, 4, .inl (fun i => nI (per i)))), (a6, .inl (cI, 4, .inl rea)), (a8, .inl (cI, 64, .inl rw)), (a12, .inl (cI, 16, .inl cp))] := hD
    refine lv_goto (tgt := 17) hx hb dX7_peak_12 (by decide) ?_
    subst hF
    subst hQ
    exact W.iret (v := (fX7_peakOf sn tu re ot cn).1) hx hb hr (fun u9 ht hW => ⟨⟨_, (), rfl, rfl, by rw [← ht] at hP; exact hP⟩, hS.F ht⟩) hS.2.2 dX7_peak_17
def fX7_flank (sn : Nat → Nat) (tu : Nat → Int32) (re : Int32) (ot : Int32) (xc : Int32) : Int32 × Int32 × Int32 := (if (fX7_isSign xc) = 0 then ((-101), re, ot) else ((fX7_flankOf sn tu re ot (xc.toNatClampNeg)).1, (fX7_flankOf sn tu re ot (xc.toNatClampNeg)).2.1, (fX7_flankOf sn tu re ot (xc.toNatClampNeg)).2.2))
abbrev rmX7_flank : Room := { frames := 3, cells := 0, slots := 0, locals := 70 }
set_option maxHeartbeats 4000000 in
set_option maxRecDepth 100000 in
theorem c_X7_flank (l : Launch) (D : va_G) (cI : ClassId) (sz : Nat) (h : Nat) (a0 : Nat) (a1 : Nat) (a3 : Nat) (a5 : Nat) (a6 : Nat) (a8 : Nat) (a12 : Nat) (sn : Nat → Nat) (tu : Nat → Int32) (fn : Nat) (we : Nat → Int32) (rn : Nat) (per : Nat → Nat) (rea : Nat → Int32) (wn : Nat) (rw : Nat → Int32) (bs : Nat) (re : Int32) (ot : Int32) (cp : Nat → Int32) (ab : Int64) (be : Int64) (hh : Int64) (xc : Int32) (hsn : ∀ c, c < 6 → 1 ≤ sn c ∧ sn c ≤ 16) : Met l yX7_flank wsX7_flank rmX7_flank (va_Pc [.ref h, .int xc] (wrP D [(cI, .int)] [(h, .inr (5, [.ref a0, .ref a1, .int (nI fn), .ref a3, .int (nI rn), .ref a5, .ref a6, .int (nI wn), .ref a8, .int (nI bs), .int re, .int ot, .ref a12, .long ab, .long be, .long hh])), (a0, .inl (cI, 6, .inl (fun i => nI (sn i)))), (a1, .inl (cI, 96, .inl tu)), (a3, .inl (cI, 24, .inl we)), (a5, .inl (cI, 4, .inl (fun i => nI (per i)))), (a6, .inl (cI, 4, .inl rea)), (a8, .inl (cI, 64, .inl rw)), (a12, .inl (cI, 16, .inl cp))] sz)) (va_Qi (fun r9 (_ : Unit) => r9 = (fX7_flank sn tu re ot xc).1) (fun _ u9 => va_P D vwCl [(h, .inr (5, [.ref a0, .ref a1, .int (nI fn), .ref a3, .int (nI rn), .ref a5, .ref a6, .int (nI wn), .ref a8, .int (nI bs), .int ((fX7_flank sn tu re ot xc).2.1), .int ((fX7_flank sn tu re ot xc).2.2), .ref a12, .long ab, .long be, .long hh])), (a0, .inl (cI, 6, .inl (fun i => nI (sn i)))), (a1, .inl (cI, 96, .inl tu)), (a3, .inl (cI, 24, .inl we)), (a5, .inl (cI, 4, .inl (fun i => nI (per i)))), (a6, .inl (cI, 4, .inl rea)), (a8, .inl (cI, 64, .inl rw)), (a12, .inl (cI, 16, .inl cp))] u9.heap) (va_A [(h, .inr (5, [.ref a0, .ref a1, .int (nI fn), .ref a3, .int (nI rn), .ref a5, .ref a6, .int (nI wn), .ref a8, .int (nI bs), .int re, .int ot, .ref a12, .long ab, .long be, .long hh])), (a0, .inl (cI, 6, .inl (fun i => nI (sn i)))), (a1, .inl (cI, 96, .inl tu)), (a3, .inl (cI, 24, .inl we)), (a5, .inl (cI, 4, .inl (fun i => nI (per i)))), (a6, .inl (cI, 4, .inl rea)), (a8, .inl (cI, 64, .inl rw)), (a12, .inl (cI, 16, .inl cp))] sz)) 0 0 (va_A [(h, .inr (5, [.ref a0, .ref a1, .int (nI fn), .ref a3, .int (nI rn), .ref a5, .ref a6, .int (nI wn), .ref a8, .int (nI bs), .int re, .int ot, .ref a12, .long ab, .long be, .long hh])), (a0, .inl (cI, 6, .inl (fun i => nI (sn i)))), (a1, .inl (cI, 96, .inl tu)), (a3, .inl (cI, 24, .inl we)), (a5, .inl (cI, 4, .inl (fun i => nI (per i)))), (a6, .inl (cI, 4, .inl rea)), (a8, .inl (cI, 64, .inl rw)), (a12, .inl (cI, 16, .inl cp))] sz) := by
  generalize hF : fX7_flank sn tu re ot xc = T
  refine Met.ofW (cc := cX7_flank) (maxL := 2) (ret := (some .int)) (by decide) rfl ?_
  intro p e s m args below meth c s₁ B hml hv
  obtain ⟨rfl, hsz, hP, hK, hD0⟩ := hv
  have hx := B.exec
  have hb := B.bytes
  have hr := B.returns
  have hts := atoms_spec (ws := wsX7_flank) B.pre
  have hown : s.vm.findClass RX7 = some m.cls := findClass_of_methodNamed B.named
  have hlocks := B.notSynchronized
  subst hsz
  have hD := hD0.self (sz := s.heap.size)
  generalize hAe : va_A [(h, .inr (5, [.ref a0, .ref a1, .int (nI fn), .ref a3, .int (nI rn), .ref a5, .ref a6, .int (nI wn), .ref a8, .int (nI bs), .int re, .int ot, .ref a12, .long ab, .long be, .long hh])), (a0, .inl (cI, 6, .inl (fun i => nI (sn i)))), (a1, .inl (cI, 96, .inl tu)), (a3, .inl (cI, 24, .inl we)), (a5, .inl (cI, 4, .inl (fun i => nI (per i)))), (a6, .inl (cI, 4, .inl rea)), (a8, .inl (cI, 64, .inl rw)), (a12, .inl (cI, 16, .inl cp))] s.heap.size = A at hD ⊢
  have hA : ∀ q : Nat, s.heap.size ≤ q → A q := fun q h => by rw [← hAe]; exact Or.inr h
  have hS : va_S A s.heap s.heap [] := va_S.rf
  have hP : va_P D vwCl [(h, .inr (5, [.ref a0, .ref a1, .int (nI fn), .ref a3, .int (nI rn), .ref a5, .ref a6, .int (nI wn), .ref a8, .int (nI bs), .int re, .int ot, .ref a12, .long ab, .long be, .long hh])), (a0, .inl (cI, 6, .inl (fun i => nI (sn i)))), (a1, .inl (cI, 96, .inl tu)), (a3, .inl (cI, 24, .inl we)), (a5, .inl (cI, 4, .inl (fun i => nI (per i)))), (a6, .inl (cI, 4, .inl rea)), (a8, .inl (cI, 64, .inl rw)), (a12, .inl (cI, 16, .inl cp))] s.heap := hP
  have hl := lv_entry ([.ref h, .int xc]) (n := 2) (Nat.le_of_ble_eq_true rfl)
  rw [lg_entry_eq]
  generalize (lg_sl ([.ref h, .int xc]) ++ List.replicate (2 - (lg_sl ([.ref h, .int xc])).length) Slot.unset).toArray = ls at hl ⊢
  refine w_Q (fun Q hQ => ?_)
  have hl : lv_has ls 2 [(0, .ref h), (1, .int xc)] := hl
  rw [fX7_flank] at hF
  refine lv_iload_n hx hb dX7_flank_0 rfl (lv_at hl 1 rfl) ?_
  have hPc := hP.sub (ws' := []) [] rfl
  refine cs_i (va_runS (As := [.int xc]) (rest := []) ⟨hx, hb, hml, hown, hts⟩ (c_X7_isSign l D cI xc ) (va_cwS 1 hts gX7_flank_X7_isSign rfl rfl rfl (by decide +kernel) ⟨(Nat.le_of_ble_eq_true rfl), (Nat.le_of_ble_eq_true rfl)⟩) (ro_pre hPc hK) rfl rfl hl.1 rfl (lv_room (Nat.le_of_ble_eq_true rfl)) dX7_flank_1 ⟨Nat.zero_le _, Nat.zero_le _⟩) ?_
  refine lv_if_eq (tgt := 15) hx hb dX7_flank_4 (by decide) (fun c4 => ?_) (fun c4 => ?_)
  · rw [if_pos c4] at hF
    refine lv_bipush (v := (-101)) hx hb dX7_flank_15 (by decide) ?_
    subst hF
    subst hQ
    exact W.iret (v := (-101)) hx hb hr (fun u9 ht hW => ⟨⟨_, (), rfl, rfl, by rw [← ht] at hP; exact hP⟩, hS.F ht⟩) hS.2.2 dX7_flank_17
  · rw [if_neg c4] at hF
    obtain ⟨cn, hcn, rfl⟩ := sign_nat c4
    have e_cn : (nI cn).toNatClampNeg = cn := nI_clamp (by omega)
    try simp only [e_cn] at hF
    refine lv_aload_n hx hb dX7_flank_7 rfl (lv_at hl 0 rfl) ?_
    refine lv_iload_n hx hb dX7_flank_8 rfl (lv_at hl 1 rfl) ?_
    refine cw_i (va_runV (As := [.int (nI cn)]) (rest := []) ⟨hx, hb, hml, hown, hts⟩ (c_X7_flankOf l D cI s.heap.size h a0 a1 a3 a5 a6 a8 a12 sn tu fn we rn per rea wn rw bs re ot cp ab be hh cn (by first | assumption | omega) (by first | assumption | omega)) (cwV 1 hts gX7_flank_X7_flankOf rfl rfl rfl (by decide +kernel) ⟨(Nat.le_of_ble_eq_true rfl), (Nat.le_of_ble_eq_true rfl)⟩) (wr_preV hP hD hK rfl (q0 := 0) rfl) rfl rfl hl.1 rfl (lv_room (Nat.le_of_ble_eq_true rfl)) dX7_flank_9 ⟨Nat.zero_le _, Nat.zero_le _⟩) hP hD hS hA [0, 1, 2, 3, 4, 5, 6, 7] rfl rfl (fun H locs hP hD hS => ?_)
    have hP : va_P D vwCl [(h, .inr (5, [.ref a0, .ref a1, .int (nI fn), .ref a3, .int (nI rn), .ref a5, .ref a6, .int (nI wn), .ref a8, .int (nI bs), .int ((fX7_flankOf sn tu re ot cn).2.1), .int ((fX7_flankOf sn tu re ot cn).2.2), .ref a12, .long ab, .long be, .long hh])), (a0, .inl (cI, 6, .inl (fun i => nI (sn i)))), (a1, .inl (cI, 96, .inl tu)), (a3, .inl (cI, 24, .inl we)), (a5, .inl (cI, 4, .inl (fun i => nI (per i)))), (a6, .inl (cI, 4, .inl rea)), (a8, .inl (cI, 64, .inl rw)), (a12, .inl (cI, 16, .inl cp))] H := hP
    have hD : va_D A [(h, .inr (5, [.ref a0, .ref a1, .int (nI fn), .ref a3, .int (nI rn), .ref a5, .ref a6, .int (nI wn), .ref a8, .int (nI bs), .int ((fX7_flankOf sn tu re ot cn).2.1), .int ((fX7_flankOf sn tu re ot cn).2.2), .ref a12, .long ab, .long be, .long hh])), (a0, .inl (cI, 6, .inl (fun i => nI (sn i)))), (a1, .inl (cI, 96, .inl tu)), (a3, .inl (cI, 24, .inl we)), (a5, .inl (cI, 4, .inl (fun i => nI (per i)))), (a6, .inl (cI, 4, .inl rea)), (a8, .inl (cI, 64, .inl rw)), (a12, .inl (cI, 16, .inl cp))] := hD
    refine lv_goto (tgt := 17) hx hb dX7_flank_12 (by decide) ?_
    subst hF
    subst hQ
    exact W.iret (v := (fX7_flankOf sn tu re ot cn).1) hx hb hr (fun u9 ht hW => ⟨⟨_, (), rfl, rfl, by rw [← ht] at hP; exact hP⟩, hS.F ht⟩) hS.2.2 dX7_flank_17
def F_X7_worst_24 (sn : Nat → Nat) (tu : Nat → Int32) (cn : Nat) (k15 : Nat) (K15 : (Int32) → (Int32) → (Int32) → (Int32 × Int32 × Int32)) : Nat → Nat → Int32 → Int32 → Int32 → (Int32 × Int32 × Int32)
  | 0, k24, x2, re, ot => K15 x2 re ot
  | r24 + 1, k24, x2, re, ot => (if (nI k15 - 15) = 0 then (if (nI k24) = 0 then (if (0 : Int32) ≤ x2 then F_X7_worst_24 sn tu cn k15 K15 r24 (k24 + 1) x2 re ot else F_X7_worst_24 sn tu cn k15 K15 r24 (k24 + 1) 0 re ot) else (if ((fX7_looks sn tu cn cn (nI k15 - 15) (nI k24)).1) ≤ x2 then F_X7_worst_24 sn tu cn k15 K15 r24 (k24 + 1) x2 ((fX7_looks sn tu cn cn (nI k15 - 15) (nI k24)).2.1) ((fX7_looks sn tu cn cn (nI k15 - 15) (nI k24)).2.2) else F_X7_worst_24 sn tu cn k15 K15 r24 (k24 + 1) ((fX7_looks sn tu cn cn (nI k15 - 15) (nI k24)).1) ((fX7_looks sn tu cn cn (nI k15 - 15) (nI k24)).2.1) ((fX7_looks sn tu cn cn (nI k15 - 15) (nI k24)).2.2))) else (if ((fX7_looks sn tu cn cn (nI k15 - 15) (nI k24)).1) ≤ x2 then F_X7_worst_24 sn tu cn k15 K15 r24 (k24 + 1) x2 ((fX7_looks sn tu cn cn (nI k15 - 15) (nI k24)).2.1) ((fX7_looks sn tu cn cn (nI k15 - 15) (nI k24)).2.2) else F_X7_worst_24 sn tu cn k15 K15 r24 (k24 + 1) ((fX7_looks sn tu cn cn (nI k15 - 15) (nI k24)).1) ((fX7_looks sn tu cn cn (nI k15 - 15) (nI k24)).2.1) ((fX7_looks sn tu cn cn (nI k15 - 15) (nI k24)).2.2)))
def F_X7_worst_15 (sn : Nat → Nat) (tu : Nat → Int32) (cn : Nat) : Nat → Nat → Int32 → Int32 → Int32 → (Int32 × Int32 × Int32)
  | 0, k15, x2, re, ot => (x2, re, ot)
  | r15 + 1, k15, x2, re, ot => F_X7_worst_24 sn tu cn k15 (fun z24_0 z24_1 z24_2 => F_X7_worst_15 sn tu cn r15 (k15 + 1) z24_0 z24_1 z24_2) (4 - 0) 0 x2 re ot
def fX7_worst (sn : Nat → Nat) (tu : Nat → Int32) (re : Int32) (ot : Int32) (xc : Int32) : Int32 × Int32 × Int32 := (if (fX7_isSign xc) = 0 then ((-101), re, ot) else F_X7_worst_15 sn tu (xc.toNatClampNeg) (31 - 0) 0 0 re ot)
abbrev rmX7_worst : Room := { frames := 2, cells := 0, slots := 0, locals := 47 }
set_option maxHeartbeats 4000000 in
set_option maxRecDepth 100000 in
theorem c_X7_worst (l : Launch) (D : va_G) (cI : ClassId) (sz : Nat) (h : Nat) (a0 : Nat) (a1 : Nat) (a3 : Nat) (a5 : Nat) (a6 : Nat) (a8 : Nat) (a12 : Nat) (sn : Nat → Nat) (tu : Nat → Int32) (fn : Nat) (we : Nat → Int32) (rn : Nat) (per : Nat → Nat) (rea : Nat → Int32) (wn : Nat) (rw : Nat → Int32) (bs : Nat) (re : Int32) (ot : Int32) (cp : Nat → Int32) (ab : Int64) (be : Int64) (hh : Int64) (xc : Int32) (hsn : ∀ c, c < 6 → 1 ≤ sn c ∧ sn c ≤ 16) : Met l yX7_worst wsX7_worst rmX7_worst (va_Pc [.ref h, .int xc] (wrP D [(cI, .int)] [(h, .inr (5, [.ref a0, .ref a1, .int (nI fn), .ref a3, .int (nI rn), .ref a5, .ref a6, .int (nI wn), .ref a8, .int (nI bs), .int re, .int ot, .ref a12, .long ab, .long be, .long hh])), (a0, .inl (cI, 6, .inl (fun i => nI (sn i)))), (a1, .inl (cI, 96, .inl tu)), (a3, .inl (cI, 24, .inl we)), (a5, .inl (cI, 4, .inl (fun i => nI (per i)))), (a6, .inl (cI, 4, .inl rea)), (a8, .inl (cI, 64, .inl rw)), (a12, .inl (cI, 16, .inl cp))] sz)) (va_Qi (fun r9 (_ : Unit) => r9 = (fX7_worst sn tu re ot xc).1) (fun _ u9 => va_P D vwCl [(h, .inr (5, [.ref a0, .ref a1, .int (nI fn), .ref a3, .int (nI rn), .ref a5, .ref a6, .int (nI wn), .ref a8, .int (nI bs), .int ((fX7_worst sn tu re ot xc).2.1), .int ((fX7_worst sn tu re ot xc).2.2), .ref a12, .long ab, .long be, .long hh])), (a0, .inl (cI, 6, .inl (fun i => nI (sn i)))), (a1, .inl (cI, 96, .inl tu)), (a3, .inl (cI, 24, .inl we)), (a5, .inl (cI, 4, .inl (fun i => nI (per i)))), (a6, .inl (cI, 4, .inl rea)), (a8, .inl (cI, 64, .inl rw)), (a12, .inl (cI, 16, .inl cp))] u9.heap) (va_A [(h, .inr (5, [.ref a0, .ref a1, .int (nI fn), .ref a3, .int (nI rn), .ref a5, .ref a6, .int (nI wn), .ref a8, .int (nI bs), .int re, .int ot, .ref a12, .long ab, .long be, .long hh])), (a0, .inl (cI, 6, .inl (fun i => nI (sn i)))), (a1, .inl (cI, 96, .inl tu)), (a3, .inl (cI, 24, .inl we)), (a5, .inl (cI, 4, .inl (fun i => nI (per i)))), (a6, .inl (cI, 4, .inl rea)), (a8, .inl (cI, 64, .inl rw)), (a12, .inl (cI, 16, .inl cp))] sz)) 0 0 (va_A [(h, .inr (5, [.ref a0, .ref a1, .int (nI fn), .ref a3, .int (nI rn), .ref a5, .ref a6, .int (nI wn), .ref a8, .int (nI bs), .int re, .int ot, .ref a12, .long ab, .long be, .long hh])), (a0, .inl (cI, 6, .inl (fun i => nI (sn i)))), (a1, .inl (cI, 96, .inl tu)), (a3, .inl (cI, 24, .inl we)), (a5, .inl (cI, 4, .inl (fun i => nI (per i)))), (a6, .inl (cI, 4, .inl rea)), (a8, .inl (cI, 64, .inl rw)), (a12, .inl (cI, 16, .inl cp))] sz) := by
  generalize hF : fX7_worst sn tu re ot xc = T
  refine Met.ofW (cc := cX7_worst) (maxL := 6) (ret := (some .int)) (by decide) rfl ?_
  intro p e s m args below meth c s₁ B hml hv
  obtain ⟨rfl, hsz, hP, hK, hD0⟩ := hv
  have hx := B.exec
  have hb := B.bytes
  have hr := B.returns
  have hts := atoms_spec (ws := wsX7_worst) B.pre
  have hown : s.vm.findClass RX7 = some m.cls := findClass_of_methodNamed B.named
  have hlocks := B.notSynchronized
  subst hsz
  have hD := hD0.self (sz := s.heap.size)
  generalize hAe : va_A [(h, .inr (5, [.ref a0, .ref a1, .int (nI fn), .ref a3, .int (nI rn), .ref a5, .ref a6, .int (nI wn), .ref a8, .int (nI bs), .int re, .int ot, .ref a12, .long ab, .long be, .long hh])), (a0, .inl (cI, 6, .inl (fun i => nI (sn i)))), (a1, .inl (cI, 96, .inl tu)), (a3, .inl (cI, 24, .inl we)), (a5, .inl (cI, 4, .inl (fun i => nI (per i)))), (a6, .inl (cI, 4, .inl rea)), (a8, .inl (cI, 64, .inl rw)), (a12, .inl (cI, 16, .inl cp))] s.heap.size = A at hD ⊢
  have hA : ∀ q : Nat, s.heap.size ≤ q → A q := fun q h => by rw [← hAe]; exact Or.inr h
  have hS : va_S A s.heap s.heap [] := va_S.rf
  have hP : va_P D vwCl [(h, .inr (5, [.ref a0, .ref a1, .int (nI fn), .ref a3, .int (nI rn), .ref a5, .ref a6, .int (nI wn), .ref a8, .int (nI bs), .int re, .int ot, .ref a12, .long ab, .long be, .long hh])), (a0, .inl (cI, 6, .inl (fun i => nI (sn i)))), (a1, .inl (cI, 96, .inl tu)), (a3, .inl (cI, 24, .inl we)), (a5, .inl (cI, 4, .inl (fun i => nI (per i)))), (a6, .inl (cI, 4, .inl rea)), (a8, .inl (cI, 64, .inl rw)), (a12, .inl (cI, 16, .inl cp))] s.heap := hP
  have hl := lv_entry ([.ref h, .int xc]) (n := 6) (Nat.le_of_ble_eq_true rfl)
  rw [lg_entry_eq]
  generalize (lg_sl ([.ref h, .int xc]) ++ List.replicate (6 - (lg_sl ([.ref h, .int xc])).length) Slot.unset).toArray = ls at hl ⊢
  refine w_Q (fun Q hQ => ?_)
  have hl : lv_has ls 6 [(0, .ref h), (1, .int xc)] := hl
  rw [fX7_worst] at hF
  refine lv_iload_n hx hb dX7_worst_0 rfl (lv_at hl 1 rfl) ?_
  have hPc := hP.sub (ws' := []) [] rfl
  refine cs_i (va_runS (As := [.int xc]) (rest := []) ⟨hx, hb, hml, hown, hts⟩ (c_X7_isSign l D cI xc ) (va_cwS 1 hts gX7_worst_X7_isSign rfl rfl rfl (by decide +kernel) ⟨(Nat.le_of_ble_eq_true rfl), (Nat.le_of_ble_eq_true rfl)⟩) (ro_pre hPc hK) rfl rfl hl.1 rfl (lv_room (Nat.le_of_ble_eq_true rfl)) dX7_worst_1 ⟨Nat.zero_le _, Nat.zero_le _⟩) ?_
  refine lv_if_ne (tgt := 10) hx hb dX7_worst_4 (by decide) (fun c4 => ?_) (fun c4 => ?_)
  · rw [if_neg c4] at hF
    obtain ⟨cn, hcn, rfl⟩ := sign_nat c4
    have h16 := hsn cn (by omega)
    have e_cn : (nI cn).toNatClampNeg = cn := nI_clamp (by omega)
    try simp only [e_cn] at hF
    refine lv_iconst (v := 0) hx hb dX7_worst_10 (by decide) ?_
    refine lv_istore_n (lv' := [(2, .int 0), (0, .ref h), (1, .int (nI cn))]) hx hb dX7_worst_11 rfl hl (by decide) rfl (fun ls hl => ?_)
    refine lv_bipush (v := (-15)) hx hb dX7_worst_12 (by decide) ?_
    refine lv_istore_n (lv' := [(3, .int (-15)), (2, .int 0), (0, .ref h), (1, .int (nI cn))]) hx hb dX7_worst_14 rfl hl (by decide) rfl (fun ls hl => ?_)
    have lp15 : ∀ (r15 k15 : Nat) (x2 : Int32) (re : Int32) (ot : Int32) (H : Heap) (locs : List Loc) (ls : Array Slot), r15 = 31 - k15 → k15 ≤ 31 + 1 → va_P D vwCl [(h, .inr (5, [.ref a0, .ref a1, .int (nI fn), .ref a3, .int (nI rn), .ref a5, .ref a6, .int (nI wn), .ref a8, .int (nI bs), .int re, .int ot, .ref a12, .long ab, .long be, .long hh])), (a0, .inl (cI, 6, .inl (fun i => nI (sn i)))), (a1, .inl (cI, 96, .inl tu)), (a3, .inl (cI, 24, .inl we)), (a5, .inl (cI, 4, .inl (fun i => nI (per i)))), (a6, .inl (cI, 4, .inl rea)), (a8, .inl (cI, 64, .inl rw)), (a12, .inl (cI, 16, .inl cp))] H → va_D A [(h, .inr (5, [.ref a0, .ref a1, .int (nI fn), .ref a3, .int (nI rn), .ref a5, .ref a6, .int (nI wn), .ref a8, .int (nI bs), .int re, .int ot, .ref a12, .long ab, .long be, .long hh])), (a0, .inl (cI, 6, .inl (fun i => nI (sn i)))), (a1, .inl (cI, 96, .inl tu)), (a3, .inl (cI, 24, .inl we)), (a5, .inl (cI, 4, .inl (fun i => nI (per i)))), (a6, .inl (cI, 4, .inl rea)), (a8, .inl (cI, 64, .inl rw)), (a12, .inl (cI, 16, .inl cp))] → va_S A s.heap H locs → lv_has ls 6 [(0, .ref h), (1, .int (nI cn)), (2, .int x2), (3, .int (nI k15 - 15))] → F_X7_worst_15 sn tu cn r15 k15 x2 re ot = T → W p l e (headSpec wsX7_worst rmX7_worst).room s m ([.ref h, .int (nI cn)] : List Value).toArray below meth c H locs 0 0 Q (F0 m 15 ls []) := by
      intro r15
      induction r15 with
      | zero =>
        intro k15 x2 re ot H locs ls hi15_0 hi15_1 hP hD hS hl hF
        rw [F_X7_worst_15] at hF
        refine lv_iload_n hx hb dX7_worst_15 rfl (lv_at hl 3 rfl) ?_
        refine lv_bipush (v := 15) hx hb dX7_worst_16 (by decide) ?_
        refine lv_icmp_gt (tgt := 79) hx hb dX7_worst_18 (by decide) (fun c18 => ?_) (fun c18 => ?_)
        · skip
          refine lv_iload_n hx hb dX7_worst_79 rfl (lv_at hl 2 rfl) ?_
          subst hF
          subst hQ
          exact W.iret (v := x2) hx hb hr (fun u9 ht hW => ⟨⟨_, (), rfl, rfl, by rw [← ht] at hP; exact hP⟩, hS.F ht⟩) hS.2.2 dX7_worst_80
        · exact False.elim (c18 (late_out (by omega) (by omega)))
      | succ r15 ih15 =>
        intro k15 x2 re ot H locs ls hi15_0 hi15_1 hP hD hS hl hF
        rw [F_X7_worst_15] at hF
        refine lv_iload_n hx hb dX7_worst_15 rfl (lv_at hl 3 rfl) ?_
        refine lv_bipush (v := 15) hx hb dX7_worst_16 (by decide) ?_
        refine lv_icmp_gt (tgt := 79) hx hb dX7_worst_18 (by decide) (fun c18 => ?_) (fun c18 => ?_)
        · exact False.elim (late_in (by omega) c18)
        · skip
          refine lv_iconst (v := 0) hx hb dX7_worst_21 (by decide) ?_
          refine lv_istore (lv' := [(4, .int 0), (0, .ref h), (1, .int (nI cn)), (2, .int x2), (3, .int (nI k15 - 15))]) hx hb dX7_worst_22 hl (by decide) rfl (fun ls hl => ?_)
          have lp24 : ∀ (r24 k24 : Nat) (x2 : Int32) (re : Int32) (ot : Int32) (H : Heap) (locs : List Loc) (ls : Array Slot), r24 = 4 - k24 → k24 ≤ 4 + 1 → va_P D vwCl [(h, .inr (5, [.ref a0, .ref a1, .int (nI fn), .ref a3, .int (nI rn), .ref a5, .ref a6, .int (nI wn), .ref a8, .int (nI bs), .int re, .int ot, .ref a12, .long ab, .long be, .long hh])), (a0, .inl (cI, 6, .inl (fun i => nI (sn i)))), (a1, .inl (cI, 96, .inl tu)), (a3, .inl (cI, 24, .inl we)), (a5, .inl (cI, 4, .inl (fun i => nI (per i)))), (a6, .inl (cI, 4, .inl rea)), (a8, .inl (cI, 64, .inl rw)), (a12, .inl (cI, 16, .inl cp))] H → va_D A [(h, .inr (5, [.ref a0, .ref a1, .int (nI fn), .ref a3, .int (nI rn), .ref a5, .ref a6, .int (nI wn), .ref a8, .int (nI bs), .int re, .int ot, .ref a12, .long ab, .long be, .long hh])), (a0, .inl (cI, 6, .inl (fun i => nI (sn i)))), (a1, .inl (cI, 96, .inl tu)), (a3, .inl (cI, 24, .inl we)), (a5, .inl (cI, 4, .inl (fun i => nI (per i)))), (a6, .inl (cI, 4, .inl rea)), (a8, .inl (cI, 64, .inl rw)), (a12, .inl (cI, 16, .inl cp))] → va_S A s.heap H locs → lv_has ls 6 [(0, .ref h), (1, .int (nI cn)), (2, .int x2), (3, .int (nI k15 - 15)), (4, .int (nI k24))] → F_X7_worst_24 sn tu cn k15 (fun z24_0 z24_1 z24_2 => F_X7_worst_15 sn tu cn r15 (k15 + 1) z24_0 z24_1 z24_2) r24 k24 x2 re ot = T → W p l e (headSpec wsX7_worst rmX7_worst).room s m ([.ref h, .int (nI cn)] : List Value).toArray below meth c H locs 0 0 Q (F0 m 24 ls []) := by
            intro r24
            induction r24 with
            | zero =>
              intro k24 x2 re ot H locs ls hi24_0 hi24_1 hP hD hS hl hF
              rw [F_X7_worst_24] at hF
              refine lv_iload hx hb dX7_worst_24 (lv_at hl 4 rfl) ?_
              refine lv_iconst (v := 4) hx hb dX7_worst_26 (by decide) ?_
              refine lv_icmp_ge (tgt := 73) hx hb dX7_worst_27 (by decide) (fun c27 => ?_) (fun c27 => ?_)
              · skip
                refine lv_iinc (v := nI (k15 + 1) - 15) (lv' := [(3, .int (nI (k15 + 1) - 15)), (0, .ref h), (1, .int (nI cn)), (2, .int x2), (4, .int (nI k24))]) hx hb dX7_worst_73 hl (k := 3) rfl (late_inc _) (by decide) rfl (fun ls hl => ?_)
                refine lv_goto (tgt := 15) hx hb dX7_worst_76 (by decide) ?_
                exact ih15 (k15 + 1) x2 re ot H locs ls (by omega) (by omega) hP hD hS (lv_sub hl [1, 2, 3, 0] rfl) hF
              · exact False.elim (c27 (nI_le (a := 4) (b := k24) (by omega) (by omega)))
            | succ r24 ih24 =>
              intro k24 x2 re ot H locs ls hi24_0 hi24_1 hP hD hS hl hF
              rw [F_X7_worst_24] at hF
              refine lv_iload hx hb dX7_worst_24 (lv_at hl 4 rfl) ?_
              refine lv_iconst (v := 4) hx hb dX7_worst_26 (by decide) ?_
              refine lv_icmp_ge (tgt := 73) hx hb dX7_worst_27 (by decide) (fun c27 => ?_) (fun c27 => ?_)
              · exact False.elim (nI_ge (a := k24) (b := 4) (by omega) (by omega) c27)
              · skip
                refine lv_iload_n hx hb dX7_worst_30 rfl (lv_at hl 3 rfl) ?_
                refine lv_if_ne (tgt := 43) hx hb dX7_worst_31 (by decide) (fun c31 => ?_) (fun c31 => ?_)
                · rw [if_neg c31] at hF
                  refine lv_aload_n hx hb dX7_worst_43 rfl (lv_at hl 0 rfl) ?_
                  refine lv_iload_n hx hb dX7_worst_44 rfl (lv_at hl 1 rfl) ?_
                  refine lv_iload_n hx hb dX7_worst_45 rfl (lv_at hl 1 rfl) ?_
                  refine lv_iload_n hx hb dX7_worst_46 rfl (lv_at hl 3 rfl) ?_
                  refine lv_iload hx hb dX7_worst_47 (lv_at hl 4 rfl) ?_
                  refine cw_i (va_runV (As := [.int (nI cn), .int (nI cn), .int (nI k15 - 15), .int (nI k24)]) (rest := []) ⟨hx, hb, hml, hown, hts⟩ (c_X7_looks l D cI H.size h a0 a1 a3 a5 a6 a8 a12 sn tu fn we rn per rea wn rw bs re ot cp ab be hh cn cn (nI k15 - 15) (nI k24) (by first | assumption | omega) (by first | assumption | omega) (by first | assumption | omega)) (cwV 4 hts gX7_worst_X7_looks rfl rfl rfl (by decide +kernel) ⟨(Nat.le_of_ble_eq_true rfl), (Nat.le_of_ble_eq_true rfl)⟩) (wr_preV hP hD hK rfl (q0 := 0) rfl) rfl rfl hl.1 rfl (lv_room (Nat.le_of_ble_eq_true rfl)) dX7_worst_49 ⟨Nat.zero_le _, Nat.zero_le _⟩) hP hD hS hA [0, 1, 2, 3, 4, 5, 6, 7] rfl rfl (fun H locs hP hD hS => ?_)
                  have hP : va_P D vwCl [(h, .inr (5, [.ref a0, .ref a1, .int (nI fn), .ref a3, .int (nI rn), .ref a5, .ref a6, .int (nI wn), .ref a8, .int (nI bs), .int ((fX7_looks sn tu cn cn (nI k15 - 15) (nI k24)).2.1), .int ((fX7_looks sn tu cn cn (nI k15 - 15) (nI k24)).2.2), .ref a12, .long ab, .long be, .long hh])), (a0, .inl (cI, 6, .inl (fun i => nI (sn i)))), (a1, .inl (cI, 96, .inl tu)), (a3, .inl (cI, 24, .inl we)), (a5, .inl (cI, 4, .inl (fun i => nI (per i)))), (a6, .inl (cI, 4, .inl rea)), (a8, .inl (cI, 64, .inl rw)), (a12, .inl (cI, 16, .inl cp))] H := hP
                  have hD : va_D A [(h, .inr (5, [.ref a0, .ref a1, .int (nI fn), .ref a3, .int (nI rn), .ref a5, .ref a6, .int (nI wn), .ref a8, .int (nI bs), .int ((fX7_looks sn tu cn cn (nI k15 - 15) (nI k24)).2.1), .int ((fX7_looks sn tu cn cn (nI k15 - 15) (nI k24)).2.2), .ref a12, .long ab, .long be, .long hh])), (a0, .inl (cI, 6, .inl (fun i => nI (sn i)))), (a1, .inl (cI, 96, .inl tu)), (a3, .inl (cI, 24, .inl we)), (a5, .inl (cI, 4, .inl (fun i => nI (per i)))), (a6, .inl (cI, 4, .inl rea)), (a8, .inl (cI, 64, .inl rw)), (a12, .inl (cI, 16, .inl cp))] := hD
                  refine lv_istore (lv' := [(5, .int ((fX7_looks sn tu cn cn (nI k15 - 15) (nI k24)).1)), (0, .ref h), (1, .int (nI cn)), (2, .int x2), (3, .int (nI k15 - 15)), (4, .int (nI k24))]) hx hb dX7_worst_52 hl (by decide) rfl (fun ls hl => ?_)
                  refine lv_iload hx hb dX7_worst_54 (lv_at hl 0 rfl) ?_
                  refine lv_iload_n hx hb dX7_worst_56 rfl (lv_at hl 3 rfl) ?_
                  refine lv_icmp_le (tgt := 65) hx hb dX7_worst_57 (by decide) (fun c57 => ?_) (fun c57 => ?_)
                  · rw [if_pos c57] at hF
                    refine lv_iload_n hx hb dX7_worst_65 rfl (lv_at hl 3 rfl) ?_
                    refine lv_istore_n (lv' := [(2, .int x2), (5, .int ((fX7_looks sn tu cn cn (nI k15 - 15) (nI k24)).1)), (0, .ref h), (1, .int (nI cn)), (3, .int (nI k15 - 15)), (4, .int (nI k24))]) hx hb dX7_worst_66 rfl hl (by decide) rfl (fun ls hl => ?_)
                    refine lv_iinc (v := nI (k24 + 1)) (lv' := [(4, .int (nI (k24 + 1))), (2, .int x2), (5, .int ((fX7_looks sn tu cn cn (nI k15 - 15) (nI k24)).1)), (0, .ref h), (1, .int (nI cn)), (3, .int (nI k15 - 15))]) hx hb dX7_worst_67 hl (k := 5) rfl (nI_1 _) (by decide) rfl (fun ls hl => ?_)
                    refine lv_goto (tgt := 24) hx hb dX7_worst_70 (by decide) ?_
                    exact ih24 (k24 + 1) x2 ((fX7_looks sn tu cn cn (nI k15 - 15) (nI k24)).2.1) ((fX7_looks sn tu cn cn (nI k15 - 15) (nI k24)).2.2) H locs ls (by omega) (by omega) hP hD hS (lv_sub hl [3, 4, 1, 5, 0] rfl) hF
                  · rw [if_neg c57] at hF
                    refine lv_iload hx hb dX7_worst_60 (lv_at hl 0 rfl) ?_
                    refine lv_goto (tgt := 66) hx hb dX7_worst_62 (by decide) ?_
                    refine lv_istore_n (lv' := [(2, .int ((fX7_looks sn tu cn cn (nI k15 - 15) (nI k24)).1)), (5, .int ((fX7_looks sn tu cn cn (nI k15 - 15) (nI k24)).1)), (0, .ref h), (1, .int (nI cn)), (3, .int (nI k15 - 15)), (4, .int (nI k24))]) hx hb dX7_worst_66 rfl hl (by decide) rfl (fun ls hl => ?_)
                    refine lv_iinc (v := nI (k24 + 1)) (lv' := [(4, .int (nI (k24 + 1))), (2, .int ((fX7_looks sn tu cn cn (nI k15 - 15) (nI k24)).1)), (5, .int ((fX7_looks sn tu cn cn (nI k15 - 15) (nI k24)).1)), (0, .ref h), (1, .int (nI cn)), (3, .int (nI k15 - 15))]) hx hb dX7_worst_67 hl (k := 5) rfl (nI_1 _) (by decide) rfl (fun ls hl => ?_)
                    refine lv_goto (tgt := 24) hx hb dX7_worst_70 (by decide) ?_
                    exact ih24 (k24 + 1) ((fX7_looks sn tu cn cn (nI k15 - 15) (nI k24)).1) ((fX7_looks sn tu cn cn (nI k15 - 15) (nI k24)).2.1) ((fX7_looks sn tu cn cn (nI k15 - 15) (nI k24)).2.2) H locs ls (by omega) (by omega) hP hD hS (lv_sub hl [3, 4, 1, 5, 0] rfl) hF
                · rw [if_pos c31] at hF
                  refine lv_iload hx hb dX7_worst_34 (lv_at hl 4 rfl) ?_
                  refine lv_if_ne (tgt := 43) hx hb dX7_worst_36 (by decide) (fun c36 => ?_) (fun c36 => ?_)
                  · rw [if_neg c36] at hF
                    refine lv_aload_n hx hb dX7_worst_43 rfl (lv_at hl 0 rfl) ?_
                    refine lv_iload_n hx hb dX7_worst_44 rfl (lv_at hl 1 rfl) ?_
                    refine lv_iload_n hx hb dX7_worst_45 rfl (lv_at hl 1 rfl) ?_
                    refine lv_iload_n hx hb dX7_worst_46 rfl (lv_at hl 3 rfl) ?_
                    refine lv_iload hx hb dX7_worst_47 (lv_at hl 4 rfl) ?_
                    refine cw_i (va_runV (As := [.int (nI cn), .int (nI cn), .int (nI k15 - 15), .int (nI k24)]) (rest := []) ⟨hx, hb, hml, hown, hts⟩ (c_X7_looks l D cI H.size h a0 a1 a3 a5 a6 a8 a12 sn tu fn we rn per rea wn rw bs re ot cp ab be hh cn cn (nI k15 - 15) (nI k24) (by first | assumption | omega) (by first | assumption | omega) (by first | assumption | omega)) (cwV 4 hts gX7_worst_X7_looks rfl rfl rfl (by decide +kernel) ⟨(Nat.le_of_ble_eq_true rfl), (Nat.le_of_ble_eq_true rfl)⟩) (wr_preV hP hD hK rfl (q0 := 0) rfl) rfl rfl hl.1 rfl (lv_room (Nat.le_of_ble_eq_true rfl)) dX7_worst_49 ⟨Nat.zero_le _, Nat.zero_le _⟩) hP hD hS hA [0, 1, 2, 3, 4, 5, 6, 7] rfl rfl (fun H locs hP hD hS => ?_)
                    have hP : va_P D vwCl [(h, .inr (5, [.ref a0, .ref a1, .int (nI fn), .ref a3, .int (nI rn), .ref a5, .ref a6, .int (nI wn), .ref a8, .int (nI bs), .int ((fX7_looks sn tu cn cn (nI k15 - 15) (nI k24)).2.1), .int ((fX7_looks sn tu cn cn (nI k15 - 15) (nI k24)).2.2), .ref a12, .long ab, .long be, .long hh])), (a0, .inl (cI, 6, .inl (fun i => nI (sn i)))), (a1, .inl (cI, 96, .inl tu)), (a3, .inl (cI, 24, .inl we)), (a5, .inl (cI, 4, .inl (fun i => nI (per i)))), (a6, .inl (cI, 4, .inl rea)), (a8, .inl (cI, 64, .inl rw)), (a12, .inl (cI, 16, .inl cp))] H := hP
                    have hD : va_D A [(h, .inr (5, [.ref a0, .ref a1, .int (nI fn), .ref a3, .int (nI rn), .ref a5, .ref a6, .int (nI wn), .ref a8, .int (nI bs), .int ((fX7_looks sn tu cn cn (nI k15 - 15) (nI k24)).2.1), .int ((fX7_looks sn tu cn cn (nI k15 - 15) (nI k24)).2.2), .ref a12, .long ab, .long be, .long hh])), (a0, .inl (cI, 6, .inl (fun i => nI (sn i)))), (a1, .inl (cI, 96, .inl tu)), (a3, .inl (cI, 24, .inl we)), (a5, .inl (cI, 4, .inl (fun i => nI (per i)))), (a6, .inl (cI, 4, .inl rea)), (a8, .inl (cI, 64, .inl rw)), (a12, .inl (cI, 16, .inl cp))] := hD
                    refine lv_istore (lv' := [(5, .int ((fX7_looks sn tu cn cn (nI k15 - 15) (nI k24)).1)), (0, .ref h), (1, .int (nI cn)), (2, .int x2), (3, .int (nI k15 - 15)), (4, .int (nI k24))]) hx hb dX7_worst_52 hl (by decide) rfl (fun ls hl => ?_)
                    refine lv_iload hx hb dX7_worst_54 (lv_at hl 0 rfl) ?_
                    refine lv_iload_n hx hb dX7_worst_56 rfl (lv_at hl 3 rfl) ?_
                    refine lv_icmp_le (tgt := 65) hx hb dX7_worst_57 (by decide) (fun c57 => ?_) (fun c57 => ?_)
                    · rw [if_pos c57] at hF
                      refine lv_iload_n hx hb dX7_worst_65 rfl (lv_at hl 3 rfl) ?_
                      refine lv_istore_n (lv' := [(2, .int x2), (5, .int ((fX7_looks sn tu cn cn (nI k15 - 15) (nI k24)).1)), (0, .ref h), (1, .int (nI cn)), (3, .int (nI k15 - 15)), (4, .int (nI k24))]) hx hb dX7_worst_66 rfl hl (by decide) rfl (fun ls hl => ?_)
                      refine lv_iinc (v := nI (k24 + 1)) (lv' := [(4, .int (nI (k24 + 1))), (2, .int x2), (5, .int ((fX7_looks sn tu cn cn (nI k15 - 15) (nI k24)).1)), (0, .ref h), (1, .int (nI cn)), (3, .int (nI k15 - 15))]) hx hb dX7_worst_67 hl (k := 5) rfl (nI_1 _) (by decide) rfl (fun ls hl => ?_)
                      refine lv_goto (tgt := 24) hx hb dX7_worst_70 (by decide) ?_
                      exact ih24 (k24 + 1) x2 ((fX7_looks sn tu cn cn (nI k15 - 15) (nI k24)).2.1) ((fX7_looks sn tu cn cn (nI k15 - 15) (nI k24)).2.2) H locs ls (by omega) (by omega) hP hD hS (lv_sub hl [3, 4, 1, 5, 0] rfl) hF
                    · rw [if_neg c57] at hF
                      refine lv_iload hx hb dX7_worst_60 (lv_at hl 0 rfl) ?_
                      refine lv_goto (tgt := 66) hx hb dX7_worst_62 (by decide) ?_
                      refine lv_istore_n (lv' := [(2, .int ((fX7_looks sn tu cn cn (nI k15 - 15) (nI k24)).1)), (5, .int ((fX7_looks sn tu cn cn (nI k15 - 15) (nI k24)).1)), (0, .ref h), (1, .int (nI cn)), (3, .int (nI k15 - 15)), (4, .int (nI k24))]) hx hb dX7_worst_66 rfl hl (by decide) rfl (fun ls hl => ?_)
                      refine lv_iinc (v := nI (k24 + 1)) (lv' := [(4, .int (nI (k24 + 1))), (2, .int ((fX7_looks sn tu cn cn (nI k15 - 15) (nI k24)).1)), (5, .int ((fX7_looks sn tu cn cn (nI k15 - 15) (nI k24)).1)), (0, .ref h), (1, .int (nI cn)), (3, .int (nI k15 - 15))]) hx hb dX7_worst_67 hl (k := 5) rfl (nI_1 _) (by decide) rfl (fun ls hl => ?_)
                      refine lv_goto (tgt := 24) hx hb dX7_worst_70 (by decide) ?_
                      exact ih24 (k24 + 1) ((fX7_looks sn tu cn cn (nI k15 - 15) (nI k24)).1) ((fX7_looks sn tu cn cn (nI k15 - 15) (nI k24)).2.1) ((fX7_looks sn tu cn cn (nI k15 - 15) (nI k24)).2.2) H locs ls (by omega) (by omega) hP hD hS (lv_sub hl [3, 4, 1, 5, 0] rfl) hF
                  · rw [if_pos c36] at hF
                    refine lv_iconst (v := 0) hx hb dX7_worst_39 (by decide) ?_
                    refine lv_goto (tgt := 52) hx hb dX7_worst_40 (by decide) ?_
                    refine lv_istore (lv' := [(5, .int 0), (0, .ref h), (1, .int (nI cn)), (2, .int x2), (3, .int (nI k15 - 15)), (4, .int (nI k24))]) hx hb dX7_worst_52 hl (by decide) rfl (fun ls hl => ?_)
                    refine lv_iload hx hb dX7_worst_54 (lv_at hl 0 rfl) ?_
                    refine lv_iload_n hx hb dX7_worst_56 rfl (lv_at hl 3 rfl) ?_
                    refine lv_icmp_le (tgt := 65) hx hb dX7_worst_57 (by decide) (fun c57 => ?_) (fun c57 => ?_)
                    · rw [if_pos c57] at hF
                      refine lv_iload_n hx hb dX7_worst_65 rfl (lv_at hl 3 rfl) ?_
                      refine lv_istore_n (lv' := [(2, .int x2), (5, .int 0), (0, .ref h), (1, .int (nI cn)), (3, .int (nI k15 - 15)), (4, .int (nI k24))]) hx hb dX7_worst_66 rfl hl (by decide) rfl (fun ls hl => ?_)
                      refine lv_iinc (v := nI (k24 + 1)) (lv' := [(4, .int (nI (k24 + 1))), (2, .int x2), (5, .int 0), (0, .ref h), (1, .int (nI cn)), (3, .int (nI k15 - 15))]) hx hb dX7_worst_67 hl (k := 5) rfl (nI_1 _) (by decide) rfl (fun ls hl => ?_)
                      refine lv_goto (tgt := 24) hx hb dX7_worst_70 (by decide) ?_
                      exact ih24 (k24 + 1) x2 re ot H locs ls (by omega) (by omega) hP hD hS (lv_sub hl [3, 4, 1, 5, 0] rfl) hF
                    · rw [if_neg c57] at hF
                      refine lv_iload hx hb dX7_worst_60 (lv_at hl 0 rfl) ?_
                      refine lv_goto (tgt := 66) hx hb dX7_worst_62 (by decide) ?_
                      refine lv_istore_n (lv' := [(2, .int 0), (5, .int 0), (0, .ref h), (1, .int (nI cn)), (3, .int (nI k15 - 15)), (4, .int (nI k24))]) hx hb dX7_worst_66 rfl hl (by decide) rfl (fun ls hl => ?_)
                      refine lv_iinc (v := nI (k24 + 1)) (lv' := [(4, .int (nI (k24 + 1))), (2, .int 0), (5, .int 0), (0, .ref h), (1, .int (nI cn)), (3, .int (nI k15 - 15))]) hx hb dX7_worst_67 hl (k := 5) rfl (nI_1 _) (by decide) rfl (fun ls hl => ?_)
                      refine lv_goto (tgt := 24) hx hb dX7_worst_70 (by decide) ?_
                      exact ih24 (k24 + 1) 0 re ot H locs ls (by omega) (by omega) hP hD hS (lv_sub hl [3, 4, 1, 5, 0] rfl) hF
          exact lp24 (4 - 0) 0 x2 re ot H _ ls rfl (by omega) hP hD hS (lv_sub hl [1, 2, 3, 4, 0] rfl) hF
    exact lp15 (31 - 0) 0 0 re ot s.heap _ ls rfl (by omega) hP hD hS (lv_sub hl [2, 3, 1, 0] rfl) hF
  · rw [if_pos c4] at hF
    refine lv_bipush (v := (-101)) hx hb dX7_worst_7 (by decide) ?_
    subst hF
    subst hQ
    exact W.iret (v := (-101)) hx hb hr (fun u9 ht hW => ⟨⟨_, (), rfl, rfl, by rw [← ht] at hP; exact hP⟩, hS.F ht⟩) hS.2.2 dX7_worst_9
def F_X7_lay_3 (cc : Nat) (n2 : Nat) (cd : Int32) : Nat → Nat → (Nat → Int32) → (Nat → Int32)
  | 0, k3, tu => tu
  | r3 + 1, k3, tu => (if (nI n2) ≤ (nI k3) then F_X7_lay_3 cc n2 cd r3 (k3 + 1) (upd tu (16 * cc + k3) 0) else F_X7_lay_3 cc n2 cd r3 (k3 + 1) (upd tu (16 * cc + k3) (2 * ((cd >>> ((((nI n2) - 1) - (nI k3)) &&& 31)) &&& 1))))
def fX7_lay (tu : Nat → Int32) (cc : Nat) (n2 : Nat) (cd : Int32) : (Nat → Int32) := F_X7_lay_3 cc n2 cd (16 - 0) 0 tu
abbrev rmX7_lay : Room := { frames := 0, cells := 0, slots := 0, locals := 0 }
set_option maxHeartbeats 4000000 in
set_option maxRecDepth 100000 in
theorem c_X7_lay (l : Launch) (D : va_G) (cI : ClassId) (sz : Nat) (h : Nat) (a0 : Nat) (a1 : Nat) (a3 : Nat) (a5 : Nat) (a6 : Nat) (a8 : Nat) (a12 : Nat) (sn : Nat → Nat) (tu : Nat → Int32) (fn : Nat) (we : Nat → Int32) (rn : Nat) (per : Nat → Nat) (rea : Nat → Int32) (wn : Nat) (rw : Nat → Int32) (bs : Nat) (re : Int32) (ot : Int32) (cp : Nat → Int32) (ab : Int64) (be : Int64) (hh : Int64) (cc : Nat) (n2 : Nat) (cd : Int32) (hc6 : cc < 6) (hn2 : n2 ≤ 16) : Met l yX7_lay wsX7_lay rmX7_lay (va_Pc [.ref h, .int (nI cc), .int (nI n2), .int cd] (wrP D [(cI, .int)] [(h, .inr (5, [.ref a0, .ref a1, .int (nI fn), .ref a3, .int (nI rn), .ref a5, .ref a6, .int (nI wn), .ref a8, .int (nI bs), .int re, .int ot, .ref a12, .long ab, .long be, .long hh])), (a0, .inl (cI, 6, .inl (fun i => nI (sn i)))), (a1, .inl (cI, 96, .inl tu)), (a3, .inl (cI, 24, .inl we)), (a5, .inl (cI, 4, .inl (fun i => nI (per i)))), (a6, .inl (cI, 4, .inl rea)), (a8, .inl (cI, 64, .inl rw)), (a12, .inl (cI, 16, .inl cp))] sz)) (va_Qv (fun (_ : Unit) => True) (fun _ u9 => va_P D vwCl [(h, .inr (5, [.ref a0, .ref a1, .int (nI fn), .ref a3, .int (nI rn), .ref a5, .ref a6, .int (nI wn), .ref a8, .int (nI bs), .int re, .int ot, .ref a12, .long ab, .long be, .long hh])), (a0, .inl (cI, 6, .inl (fun i => nI (sn i)))), (a1, .inl (cI, 96, .inl (fX7_lay tu cc n2 cd))), (a3, .inl (cI, 24, .inl we)), (a5, .inl (cI, 4, .inl (fun i => nI (per i)))), (a6, .inl (cI, 4, .inl rea)), (a8, .inl (cI, 64, .inl rw)), (a12, .inl (cI, 16, .inl cp))] u9.heap) (va_A [(h, .inr (5, [.ref a0, .ref a1, .int (nI fn), .ref a3, .int (nI rn), .ref a5, .ref a6, .int (nI wn), .ref a8, .int (nI bs), .int re, .int ot, .ref a12, .long ab, .long be, .long hh])), (a0, .inl (cI, 6, .inl (fun i => nI (sn i)))), (a1, .inl (cI, 96, .inl tu)), (a3, .inl (cI, 24, .inl we)), (a5, .inl (cI, 4, .inl (fun i => nI (per i)))), (a6, .inl (cI, 4, .inl rea)), (a8, .inl (cI, 64, .inl rw)), (a12, .inl (cI, 16, .inl cp))] sz)) 0 0 (va_A [(h, .inr (5, [.ref a0, .ref a1, .int (nI fn), .ref a3, .int (nI rn), .ref a5, .ref a6, .int (nI wn), .ref a8, .int (nI bs), .int re, .int ot, .ref a12, .long ab, .long be, .long hh])), (a0, .inl (cI, 6, .inl (fun i => nI (sn i)))), (a1, .inl (cI, 96, .inl tu)), (a3, .inl (cI, 24, .inl we)), (a5, .inl (cI, 4, .inl (fun i => nI (per i)))), (a6, .inl (cI, 4, .inl rea)), (a8, .inl (cI, 64, .inl rw)), (a12, .inl (cI, 16, .inl cp))] sz) := by
  generalize hF : fX7_lay tu cc n2 cd = T
  refine Met.ofW (cc := cX7_lay) (maxL := 5) (ret := none) (by decide) rfl ?_
  intro p e s m args below meth c s₁ B hml hv
  obtain ⟨rfl, hsz, hP, hK, hD0⟩ := hv
  have hx := B.exec
  have hb := B.bytes
  have hr := B.returns
  have hts := atoms_spec (ws := wsX7_lay) B.pre
  have hown : s.vm.findClass RX7 = some m.cls := findClass_of_methodNamed B.named
  have hlocks := B.notSynchronized
  have hinX7 : ∀ w ∈ u_ws RX7 TX7 16, w ∈ wsX7_lay := by decide +kernel
  have hf13 := hts (.fieldLink RX7 13 "PulseSignsModel" "turns" "[I") (by decide +kernel)
  subst hsz
  have hD := hD0.self (sz := s.heap.size)
  generalize hAe : va_A [(h, .inr (5, [.ref a0, .ref a1, .int (nI fn), .ref a3, .int (nI rn), .ref a5, .ref a6, .int (nI wn), .ref a8, .int (nI bs), .int re, .int ot, .ref a12, .long ab, .long be, .long hh])), (a0, .inl (cI, 6, .inl (fun i => nI (sn i)))), (a1, .inl (cI, 96, .inl tu)), (a3, .inl (cI, 24, .inl we)), (a5, .inl (cI, 4, .inl (fun i => nI (per i)))), (a6, .inl (cI, 4, .inl rea)), (a8, .inl (cI, 64, .inl rw)), (a12, .inl (cI, 16, .inl cp))] s.heap.size = A at hD ⊢
  have hA : ∀ q : Nat, s.heap.size ≤ q → A q := fun q h => by rw [← hAe]; exact Or.inr h
  have hS : va_S A s.heap s.heap [] := va_S.rf
  have hP : va_P D vwCl [(h, .inr (5, [.ref a0, .ref a1, .int (nI fn), .ref a3, .int (nI rn), .ref a5, .ref a6, .int (nI wn), .ref a8, .int (nI bs), .int re, .int ot, .ref a12, .long ab, .long be, .long hh])), (a0, .inl (cI, 6, .inl (fun i => nI (sn i)))), (a1, .inl (cI, 96, .inl tu)), (a3, .inl (cI, 24, .inl we)), (a5, .inl (cI, 4, .inl (fun i => nI (per i)))), (a6, .inl (cI, 4, .inl rea)), (a8, .inl (cI, 64, .inl rw)), (a12, .inl (cI, 16, .inl cp))] s.heap := hP
  have hl := lv_entry ([.ref h, .int (nI cc), .int (nI n2), .int cd]) (n := 5) (Nat.le_of_ble_eq_true rfl)
  rw [lg_entry_eq]
  generalize (lg_sl ([.ref h, .int (nI cc), .int (nI n2), .int cd]) ++ List.replicate (5 - (lg_sl ([.ref h, .int (nI cc), .int (nI n2), .int cd])).length) Slot.unset).toArray = ls at hl ⊢
  refine w_Q (fun Q hQ => ?_)
  have hl : lv_has ls 5 [(0, .ref h), (1, .int (nI cc)), (2, .int (nI n2)), (3, .int cd)] := hl
  rw [fX7_lay] at hF
  refine lv_iconst (v := 0) hx hb dX7_lay_0 (by decide) ?_
  refine lv_istore (lv' := [(4, .int 0), (0, .ref h), (1, .int (nI cc)), (2, .int (nI n2)), (3, .int cd)]) hx hb dX7_lay_1 hl (by decide) rfl (fun ls hl => ?_)
  have lp3 : ∀ (r3 k3 : Nat) (tu : Nat → Int32) (H : Heap) (locs : List Loc) (ls : Array Slot), r3 = 16 - k3 → k3 ≤ 16 + 1 → va_P D vwCl [(h, .inr (5, [.ref a0, .ref a1, .int (nI fn), .ref a3, .int (nI rn), .ref a5, .ref a6, .int (nI wn), .ref a8, .int (nI bs), .int re, .int ot, .ref a12, .long ab, .long be, .long hh])), (a0, .inl (cI, 6, .inl (fun i => nI (sn i)))), (a1, .inl (cI, 96, .inl tu)), (a3, .inl (cI, 24, .inl we)), (a5, .inl (cI, 4, .inl (fun i => nI (per i)))), (a6, .inl (cI, 4, .inl rea)), (a8, .inl (cI, 64, .inl rw)), (a12, .inl (cI, 16, .inl cp))] H → va_D A [(h, .inr (5, [.ref a0, .ref a1, .int (nI fn), .ref a3, .int (nI rn), .ref a5, .ref a6, .int (nI wn), .ref a8, .int (nI bs), .int re, .int ot, .ref a12, .long ab, .long be, .long hh])), (a0, .inl (cI, 6, .inl (fun i => nI (sn i)))), (a1, .inl (cI, 96, .inl tu)), (a3, .inl (cI, 24, .inl we)), (a5, .inl (cI, 4, .inl (fun i => nI (per i)))), (a6, .inl (cI, 4, .inl rea)), (a8, .inl (cI, 64, .inl rw)), (a12, .inl (cI, 16, .inl cp))] → va_S A s.heap H locs → lv_has ls 5 [(0, .ref h), (1, .int (nI cc)), (2, .int (nI n2)), (3, .int cd), (4, .int (nI k3))] → F_X7_lay_3 cc n2 cd r3 k3 tu = T → W p l e (headSpec wsX7_lay rmX7_lay).room s m ([.ref h, .int (nI cc), .int (nI n2), .int cd] : List Value).toArray below meth c H locs 0 0 Q (F0 m 3 ls []) := by
    intro r3
    induction r3 with
    | zero =>
      intro k3 tu H locs ls hi3_0 hi3_1 hP hD hS hl hF
      rw [F_X7_lay_3] at hF
      refine lv_iload hx hb dX7_lay_3 (lv_at hl 4 rfl) ?_
      refine lv_bipush (v := 16) hx hb dX7_lay_5 (by decide) ?_
      refine lv_icmp_ge (tgt := 50) hx hb dX7_lay_7 (by decide) (fun c7 => ?_) (fun c7 => ?_)
      · skip
        subst hF
        subst hQ
        exact W.vret hx hb hr (fun u9 ht hW => ⟨⟨(), rfl, trivial, by rw [← ht] at hP; exact hP⟩, hS.F ht⟩) hS.2.2 dX7_lay_50
      · exact False.elim (c7 (nI_le (a := 16) (b := k3) (by omega) (by omega)))
    | succ r3 ih3 =>
      intro k3 tu H locs ls hi3_0 hi3_1 hP hD hS hl hF
      rw [F_X7_lay_3] at hF
      refine lv_iload hx hb dX7_lay_3 (lv_at hl 4 rfl) ?_
      refine lv_bipush (v := 16) hx hb dX7_lay_5 (by decide) ?_
      refine lv_icmp_ge (tgt := 50) hx hb dX7_lay_7 (by decide) (fun c7 => ?_) (fun c7 => ?_)
      · exact False.elim (nI_ge (a := k3) (b := 16) (by omega) (by omega) c7)
      · skip
        refine lv_aload_n hx hb dX7_lay_10 rfl (lv_at hl 0 rfl) ?_
        refine va_get (D := D) (ci := 5) (v := .ref a1) (C := RX7) (T := TX7) (N := 16) hx hb hts hinX7 hown hK.1 hP 0 rfl rfl 1 (by decide) hf13 (fun _ h9 => h9) rfl dX7_lay_11 ?_
        refine lv_bipush (v := 16) hx hb dX7_lay_14 (by decide) ?_
        refine lv_iload_n hx hb dX7_lay_16 rfl (lv_at hl 1 rfl) ?_
        refine lv_imul hx hb dX7_lay_17 ?_
        refine lv_iload hx hb dX7_lay_18 (lv_at hl 4 rfl) ?_
        refine lv_iadd hx hb dX7_lay_20 ?_
        refine lv_iload hx hb dX7_lay_21 (lv_at hl 4 rfl) ?_
        refine lv_iload_n hx hb dX7_lay_23 rfl (lv_at hl 2 rfl) ?_
        refine lv_icmp_ge (tgt := 42) hx hb dX7_lay_24 (by decide) (fun c24 => ?_) (fun c24 => ?_)
        · rw [if_pos c24] at hF
          refine lv_iconst (v := 0) hx hb dX7_lay_42 (by decide) ?_
          refine w_ast hx hb hK hP hD hS 2 0 rfl rfl (16 * cc + k3) (idx16 _ _) (by omega) (by omega) dX7_lay_43 (fun H locs hP hD hS => ?_)
          have hP : va_P D vwCl [(h, .inr (5, [.ref a0, .ref a1, .int (nI fn), .ref a3, .int (nI rn), .ref a5, .ref a6, .int (nI wn), .ref a8, .int (nI bs), .int re, .int ot, .ref a12, .long ab, .long be, .long hh])), (a0, .inl (cI, 6, .inl (fun i => nI (sn i)))), (a1, .inl (cI, 96, .inl (upd tu (16 * cc + k3) 0))), (a3, .inl (cI, 24, .inl we)), (a5, .inl (cI, 4, .inl (fun i => nI (per i)))), (a6, .inl (cI, 4, .inl rea)), (a8, .inl (cI, 64, .inl rw)), (a12, .inl (cI, 16, .inl cp))] H := hP
          have hD : va_D A [(h, .inr (5, [.ref a0, .ref a1, .int (nI fn), .ref a3, .int (nI rn), .ref a5, .ref a6, .int (nI wn), .ref a8, .int (nI bs), .int re, .int ot, .ref a12, .long ab, .long be, .long hh])), (a0, .inl (cI, 6, .inl (fun i => nI (sn i)))), (a1, .inl (cI, 96, .inl (upd tu (16 * cc + k3) 0))), (a3, .inl (cI, 24, .inl we)), (a5, .inl (cI, 4, .inl (fun i => nI (per i)))), (a6, .inl (cI, 4, .inl rea)), (a8, .inl (cI, 64, .inl rw)), (a12, .inl (cI, 16, .inl cp))] := hD
          refine lv_iinc (v := nI (k3 + 1)) (lv' := [(4, .int (nI (k3 + 1))), (0, .ref h), (1, .int (nI cc)), (2, .int (nI n2)), (3, .int cd)]) hx hb dX7_lay_44 hl (k := 4) rfl (nI_1 _) (by decide) rfl (fun ls hl => ?_)
          refine lv_goto (tgt := 3) hx hb dX7_lay_47 (by decide) ?_
          exact ih3 (k3 + 1) (upd tu (16 * cc + k3) 0) H locs ls (by omega) (by omega) hP hD hS (lv_sub hl [1, 2, 3, 4, 0] rfl) hF
        · rw [if_neg c24] at hF
          refine lv_iconst (v := 2) hx hb dX7_lay_27 (by decide) ?_
          refine lv_iload_n hx hb dX7_lay_28 rfl (lv_at hl 3 rfl) ?_
          refine lv_iload_n hx hb dX7_lay_29 rfl (lv_at hl 2 rfl) ?_
          refine lv_iconst (v := 1) hx hb dX7_lay_30 (by decide) ?_
          refine lv_isub hx hb dX7_lay_31 ?_
          refine lv_iload hx hb dX7_lay_32 (lv_at hl 4 rfl) ?_
          refine lv_isub hx hb dX7_lay_34 ?_
          refine lv_ishr hx hb dX7_lay_35 ?_
          refine lv_iconst (v := 1) hx hb dX7_lay_36 (by decide) ?_
          refine lv_iand hx hb dX7_lay_37 ?_
          refine lv_imul hx hb dX7_lay_38 ?_
          refine lv_goto (tgt := 43) hx hb dX7_lay_39 (by decide) ?_
          refine w_ast hx hb hK hP hD hS 2 0 rfl rfl (16 * cc + k3) (idx16 _ _) (by omega) (by omega) dX7_lay_43 (fun H locs hP hD hS => ?_)
          have hP : va_P D vwCl [(h, .inr (5, [.ref a0, .ref a1, .int (nI fn), .ref a3, .int (nI rn), .ref a5, .ref a6, .int (nI wn), .ref a8, .int (nI bs), .int re, .int ot, .ref a12, .long ab, .long be, .long hh])), (a0, .inl (cI, 6, .inl (fun i => nI (sn i)))), (a1, .inl (cI, 96, .inl (upd tu (16 * cc + k3) (2 * ((cd >>> ((((nI n2) - 1) - (nI k3)) &&& 31)) &&& 1))))), (a3, .inl (cI, 24, .inl we)), (a5, .inl (cI, 4, .inl (fun i => nI (per i)))), (a6, .inl (cI, 4, .inl rea)), (a8, .inl (cI, 64, .inl rw)), (a12, .inl (cI, 16, .inl cp))] H := hP
          have hD : va_D A [(h, .inr (5, [.ref a0, .ref a1, .int (nI fn), .ref a3, .int (nI rn), .ref a5, .ref a6, .int (nI wn), .ref a8, .int (nI bs), .int re, .int ot, .ref a12, .long ab, .long be, .long hh])), (a0, .inl (cI, 6, .inl (fun i => nI (sn i)))), (a1, .inl (cI, 96, .inl (upd tu (16 * cc + k3) (2 * ((cd >>> ((((nI n2) - 1) - (nI k3)) &&& 31)) &&& 1))))), (a3, .inl (cI, 24, .inl we)), (a5, .inl (cI, 4, .inl (fun i => nI (per i)))), (a6, .inl (cI, 4, .inl rea)), (a8, .inl (cI, 64, .inl rw)), (a12, .inl (cI, 16, .inl cp))] := hD
          refine lv_iinc (v := nI (k3 + 1)) (lv' := [(4, .int (nI (k3 + 1))), (0, .ref h), (1, .int (nI cc)), (2, .int (nI n2)), (3, .int cd)]) hx hb dX7_lay_44 hl (k := 4) rfl (nI_1 _) (by decide) rfl (fun ls hl => ?_)
          refine lv_goto (tgt := 3) hx hb dX7_lay_47 (by decide) ?_
          exact ih3 (k3 + 1) (upd tu (16 * cc + k3) (2 * ((cd >>> ((((nI n2) - 1) - (nI k3)) &&& 31)) &&& 1))) H locs ls (by omega) (by omega) hP hD hS (lv_sub hl [1, 2, 3, 4, 0] rfl) hF
  exact lp3 (16 - 0) 0 tu s.heap _ ls rfl (by omega) hP hD hS (lv_sub hl [1, 2, 3, 4, 0] rfl) hF
def F_X7_best_63 (sn : Nat → Nat) (bs : Nat) (cn : Nat) (nn : Nat) : Nat → Nat → Int32 → Int32 → Int32 → (Nat → Int32) → Int32 → Int32 → (Int32 × (Nat → Nat) × (Nat → Int32) × Nat × Int32 × Int32)
  | 0, k63, x3, x4, x5, tu, re, ot => (x3, updN sn cn nn, fX7_lay tu cn nn x5, (bs + 1), re, ot)
  | r63 + 1, k63, x3, x4, x5, tu, re, ot => (if x3 = (-1) then (if x3 = (-1) then F_X7_best_63 sn bs cn nn r63 (k63 + 1) ((fX7_peakOf (updN sn cn nn) (fX7_lay tu cn nn (nI k63)) re ot cn).1) ((fX7_flankOf (updN sn cn nn) (fX7_lay tu cn nn (nI k63)) ((fX7_peakOf (updN sn cn nn) (fX7_lay tu cn nn (nI k63)) re ot cn).2.1) ((fX7_peakOf (updN sn cn nn) (fX7_lay tu cn nn (nI k63)) re ot cn).2.2) cn).1) (nI k63) (fX7_lay tu cn nn (nI k63)) ((fX7_flankOf (updN sn cn nn) (fX7_lay tu cn nn (nI k63)) ((fX7_peakOf (updN sn cn nn) (fX7_lay tu cn nn (nI k63)) re ot cn).2.1) ((fX7_peakOf (updN sn cn nn) (fX7_lay tu cn nn (nI k63)) re ot cn).2.2) cn).2.1) ((fX7_flankOf (updN sn cn nn) (fX7_lay tu cn nn (nI k63)) ((fX7_peakOf (updN sn cn nn) (fX7_lay tu cn nn (nI k63)) re ot cn).2.1) ((fX7_peakOf (updN sn cn nn) (fX7_lay tu cn nn (nI k63)) re ot cn).2.2) cn).2.2) else (if ((fX7_peakOf (updN sn cn nn) (fX7_lay tu cn nn (nI k63)) re ot cn).1) < x3 then F_X7_best_63 sn bs cn nn r63 (k63 + 1) ((fX7_peakOf (updN sn cn nn) (fX7_lay tu cn nn (nI k63)) re ot cn).1) ((fX7_flankOf (updN sn cn nn) (fX7_lay tu cn nn (nI k63)) ((fX7_peakOf (updN sn cn nn) (fX7_lay tu cn nn (nI k63)) re ot cn).2.1) ((fX7_peakOf (updN sn cn nn) (fX7_lay tu cn nn (nI k63)) re ot cn).2.2) cn).1) (nI k63) (fX7_lay tu cn nn (nI k63)) ((fX7_flankOf (updN sn cn nn) (fX7_lay tu cn nn (nI k63)) ((fX7_peakOf (updN sn cn nn) (fX7_lay tu cn nn (nI k63)) re ot cn).2.1) ((fX7_peakOf (updN sn cn nn) (fX7_lay tu cn nn (nI k63)) re ot cn).2.2) cn).2.1) ((fX7_flankOf (updN sn cn nn) (fX7_lay tu cn nn (nI k63)) ((fX7_peakOf (updN sn cn nn) (fX7_lay tu cn nn (nI k63)) re ot cn).2.1) ((fX7_peakOf (updN sn cn nn) (fX7_lay tu cn nn (nI k63)) re ot cn).2.2) cn).2.2) else (if x4 ≤ ((fX7_flankOf (updN sn cn nn) (fX7_lay tu cn nn (nI k63)) ((fX7_peakOf (updN sn cn nn) (fX7_lay tu cn nn (nI k63)) re ot cn).2.1) ((fX7_peakOf (updN sn cn nn) (fX7_lay tu cn nn (nI k63)) re ot cn).2.2) cn).1) then F_X7_best_63 sn bs cn nn r63 (k63 + 1) x3 x4 x5 (fX7_lay tu cn nn (nI k63)) ((fX7_flankOf (updN sn cn nn) (fX7_lay tu cn nn (nI k63)) ((fX7_peakOf (updN sn cn nn) (fX7_lay tu cn nn (nI k63)) re ot cn).2.1) ((fX7_peakOf (updN sn cn nn) (fX7_lay tu cn nn (nI k63)) re ot cn).2.2) cn).2.1) ((fX7_flankOf (updN sn cn nn) (fX7_lay tu cn nn (nI k63)) ((fX7_peakOf (updN sn cn nn) (fX7_lay tu cn nn (nI k63)) re ot cn).2.1) ((fX7_peakOf (updN sn cn nn) (fX7_lay tu cn nn (nI k63)) re ot cn).2.2) cn).2.2) else F_X7_best_63 sn bs cn nn r63 (k63 + 1) ((fX7_peakOf (updN sn cn nn) (fX7_lay tu cn nn (nI k63)) re ot cn).1) ((fX7_flankOf (updN sn cn nn) (fX7_lay tu cn nn (nI k63)) ((fX7_peakOf (updN sn cn nn) (fX7_lay tu cn nn (nI k63)) re ot cn).2.1) ((fX7_peakOf (updN sn cn nn) (fX7_lay tu cn nn (nI k63)) re ot cn).2.2) cn).1) (nI k63) (fX7_lay tu cn nn (nI k63)) ((fX7_flankOf (updN sn cn nn) (fX7_lay tu cn nn (nI k63)) ((fX7_peakOf (updN sn cn nn) (fX7_lay tu cn nn (nI k63)) re ot cn).2.1) ((fX7_peakOf (updN sn cn nn) (fX7_lay tu cn nn (nI k63)) re ot cn).2.2) cn).2.1) ((fX7_flankOf (updN sn cn nn) (fX7_lay tu cn nn (nI k63)) ((fX7_peakOf (updN sn cn nn) (fX7_lay tu cn nn (nI k63)) re ot cn).2.1) ((fX7_peakOf (updN sn cn nn) (fX7_lay tu cn nn (nI k63)) re ot cn).2.2) cn).2.2)))) else (if x3 < ((fX7_peakOf (updN sn cn nn) (fX7_lay tu cn nn (nI k63)) re ot cn).1) then F_X7_best_63 sn bs cn nn r63 (k63 + 1) x3 x4 x5 (fX7_lay tu cn nn (nI k63)) ((fX7_peakOf (updN sn cn nn) (fX7_lay tu cn nn (nI k63)) re ot cn).2.1) ((fX7_peakOf (updN sn cn nn) (fX7_lay tu cn nn (nI k63)) re ot cn).2.2) else (if x3 = (-1) then F_X7_best_63 sn bs cn nn r63 (k63 + 1) ((fX7_peakOf (updN sn cn nn) (fX7_lay tu cn nn (nI k63)) re ot cn).1) ((fX7_flankOf (updN sn cn nn) (fX7_lay tu cn nn (nI k63)) ((fX7_peakOf (updN sn cn nn) (fX7_lay tu cn nn (nI k63)) re ot cn).2.1) ((fX7_peakOf (updN sn cn nn) (fX7_lay tu cn nn (nI k63)) re ot cn).2.2) cn).1) (nI k63) (fX7_lay tu cn nn (nI k63)) ((fX7_flankOf (updN sn cn nn) (fX7_lay tu cn nn (nI k63)) ((fX7_peakOf (updN sn cn nn) (fX7_lay tu cn nn (nI k63)) re ot cn).2.1) ((fX7_peakOf (updN sn cn nn) (fX7_lay tu cn nn (nI k63)) re ot cn).2.2) cn).2.1) ((fX7_flankOf (updN sn cn nn) (fX7_lay tu cn nn (nI k63)) ((fX7_peakOf (updN sn cn nn) (fX7_lay tu cn nn (nI k63)) re ot cn).2.1) ((fX7_peakOf (updN sn cn nn) (fX7_lay tu cn nn (nI k63)) re ot cn).2.2) cn).2.2) else (if ((fX7_peakOf (updN sn cn nn) (fX7_lay tu cn nn (nI k63)) re ot cn).1) < x3 then F_X7_best_63 sn bs cn nn r63 (k63 + 1) ((fX7_peakOf (updN sn cn nn) (fX7_lay tu cn nn (nI k63)) re ot cn).1) ((fX7_flankOf (updN sn cn nn) (fX7_lay tu cn nn (nI k63)) ((fX7_peakOf (updN sn cn nn) (fX7_lay tu cn nn (nI k63)) re ot cn).2.1) ((fX7_peakOf (updN sn cn nn) (fX7_lay tu cn nn (nI k63)) re ot cn).2.2) cn).1) (nI k63) (fX7_lay tu cn nn (nI k63)) ((fX7_flankOf (updN sn cn nn) (fX7_lay tu cn nn (nI k63)) ((fX7_peakOf (updN sn cn nn) (fX7_lay tu cn nn (nI k63)) re ot cn).2.1) ((fX7_peakOf (updN sn cn nn) (fX7_lay tu cn nn (nI k63)) re ot cn).2.2) cn).2.1) ((fX7_flankOf (updN sn cn nn) (fX7_lay tu cn nn (nI k63)) ((fX7_peakOf (updN sn cn nn) (fX7_lay tu cn nn (nI k63)) re ot cn).2.1) ((fX7_peakOf (updN sn cn nn) (fX7_lay tu cn nn (nI k63)) re ot cn).2.2) cn).2.2) else (if x4 ≤ ((fX7_flankOf (updN sn cn nn) (fX7_lay tu cn nn (nI k63)) ((fX7_peakOf (updN sn cn nn) (fX7_lay tu cn nn (nI k63)) re ot cn).2.1) ((fX7_peakOf (updN sn cn nn) (fX7_lay tu cn nn (nI k63)) re ot cn).2.2) cn).1) then F_X7_best_63 sn bs cn nn r63 (k63 + 1) x3 x4 x5 (fX7_lay tu cn nn (nI k63)) ((fX7_flankOf (updN sn cn nn) (fX7_lay tu cn nn (nI k63)) ((fX7_peakOf (updN sn cn nn) (fX7_lay tu cn nn (nI k63)) re ot cn).2.1) ((fX7_peakOf (updN sn cn nn) (fX7_lay tu cn nn (nI k63)) re ot cn).2.2) cn).2.1) ((fX7_flankOf (updN sn cn nn) (fX7_lay tu cn nn (nI k63)) ((fX7_peakOf (updN sn cn nn) (fX7_lay tu cn nn (nI k63)) re ot cn).2.1) ((fX7_peakOf (updN sn cn nn) (fX7_lay tu cn nn (nI k63)) re ot cn).2.2) cn).2.2) else F_X7_best_63 sn bs cn nn r63 (k63 + 1) ((fX7_peakOf (updN sn cn nn) (fX7_lay tu cn nn (nI k63)) re ot cn).1) ((fX7_flankOf (updN sn cn nn) (fX7_lay tu cn nn (nI k63)) ((fX7_peakOf (updN sn cn nn) (fX7_lay tu cn nn (nI k63)) re ot cn).2.1) ((fX7_peakOf (updN sn cn nn) (fX7_lay tu cn nn (nI k63)) re ot cn).2.2) cn).1) (nI k63) (fX7_lay tu cn nn (nI k63)) ((fX7_flankOf (updN sn cn nn) (fX7_lay tu cn nn (nI k63)) ((fX7_peakOf (updN sn cn nn) (fX7_lay tu cn nn (nI k63)) re ot cn).2.1) ((fX7_peakOf (updN sn cn nn) (fX7_lay tu cn nn (nI k63)) re ot cn).2.2) cn).2.1) ((fX7_flankOf (updN sn cn nn) (fX7_lay tu cn nn (nI k63)) ((fX7_peakOf (updN sn cn nn) (fX7_lay tu cn nn (nI k63)) re ot cn).2.1) ((fX7_peakOf (updN sn cn nn) (fX7_lay tu cn nn (nI k63)) re ot cn).2.2) cn).2.2))))))
def fX7_best (sn : Nat → Nat) (tu : Nat → Int32) (bs : Nat) (re : Int32) (ot : Int32) (xc : Int32) (xn : Int32) : Int32 × (Nat → Nat) × (Nat → Int32) × Nat × Int32 × Int32 := (if (fX7_isSign xc) = 0 then ((-101), sn, tu, bs, re, ot) else (if (fX7_in xn 1 12) = 0 then ((-102), sn, tu, bs, re, ot) else (if (nI bs) = 30 then ((-104), sn, tu, bs, re, ot) else F_X7_best_63 sn bs (xc.toNatClampNeg) (xn.toNatClampNeg) ((2 ^ (xn.toNatClampNeg)) - 0) 0 (-1) 0 0 tu re ot)))
abbrev rmX7_best : Room := { frames := 3, cells := 0, slots := 0, locals := 71 }
set_option maxHeartbeats 4000000 in
set_option maxRecDepth 100000 in
theorem c_X7_best (l : Launch) (D : va_G) (cI : ClassId) (sz : Nat) (h : Nat) (a0 : Nat) (a1 : Nat) (a3 : Nat) (a5 : Nat) (a6 : Nat) (a8 : Nat) (a12 : Nat) (sn : Nat → Nat) (tu : Nat → Int32) (fn : Nat) (we : Nat → Int32) (rn : Nat) (per : Nat → Nat) (rea : Nat → Int32) (wn : Nat) (rw : Nat → Int32) (bs : Nat) (re : Int32) (ot : Int32) (cp : Nat → Int32) (ab : Int64) (be : Int64) (hh : Int64) (xc : Int32) (xn : Int32) (hsn : ∀ c, c < 6 → 1 ≤ sn c ∧ sn c ≤ 16) : Met l yX7_best wsX7_best rmX7_best (va_Pc [.ref h, .int xc, .int xn] (wrP D [(cI, .int)] [(h, .inr (5, [.ref a0, .ref a1, .int (nI fn), .ref a3, .int (nI rn), .ref a5, .ref a6, .int (nI wn), .ref a8, .int (nI bs), .int re, .int ot, .ref a12, .long ab, .long be, .long hh])), (a0, .inl (cI, 6, .inl (fun i => nI (sn i)))), (a1, .inl (cI, 96, .inl tu)), (a3, .inl (cI, 24, .inl we)), (a5, .inl (cI, 4, .inl (fun i => nI (per i)))), (a6, .inl (cI, 4, .inl rea)), (a8, .inl (cI, 64, .inl rw)), (a12, .inl (cI, 16, .inl cp))] sz)) (va_Qi (fun r9 (_ : Unit) => r9 = (fX7_best sn tu bs re ot xc xn).1) (fun _ u9 => va_P D vwCl [(h, .inr (5, [.ref a0, .ref a1, .int (nI fn), .ref a3, .int (nI rn), .ref a5, .ref a6, .int (nI wn), .ref a8, .int (nI ((fX7_best sn tu bs re ot xc xn).2.2.2.1)), .int ((fX7_best sn tu bs re ot xc xn).2.2.2.2.1), .int ((fX7_best sn tu bs re ot xc xn).2.2.2.2.2), .ref a12, .long ab, .long be, .long hh])), (a0, .inl (cI, 6, .inl (fun i => nI (((fX7_best sn tu bs re ot xc xn).2.1) i)))), (a1, .inl (cI, 96, .inl ((fX7_best sn tu bs re ot xc xn).2.2.1))), (a3, .inl (cI, 24, .inl we)), (a5, .inl (cI, 4, .inl (fun i => nI (per i)))), (a6, .inl (cI, 4, .inl rea)), (a8, .inl (cI, 64, .inl rw)), (a12, .inl (cI, 16, .inl cp))] u9.heap) (va_A [(h, .inr (5, [.ref a0, .ref a1, .int (nI fn), .ref a3, .int (nI rn), .ref a5, .ref a6, .int (nI wn), .ref a8, .int (nI bs), .int re, .int ot, .ref a12, .long ab, .long be, .long hh])), (a0, .inl (cI, 6, .inl (fun i => nI (sn i)))), (a1, .inl (cI, 96, .inl tu)), (a3, .inl (cI, 24, .inl we)), (a5, .inl (cI, 4, .inl (fun i => nI (per i)))), (a6, .inl (cI, 4, .inl rea)), (a8, .inl (cI, 64, .inl rw)), (a12, .inl (cI, 16, .inl cp))] sz)) 0 0 (va_A [(h, .inr (5, [.ref a0, .ref a1, .int (nI fn), .ref a3, .int (nI rn), .ref a5, .ref a6, .int (nI wn), .ref a8, .int (nI bs), .int re, .int ot, .ref a12, .long ab, .long be, .long hh])), (a0, .inl (cI, 6, .inl (fun i => nI (sn i)))), (a1, .inl (cI, 96, .inl tu)), (a3, .inl (cI, 24, .inl we)), (a5, .inl (cI, 4, .inl (fun i => nI (per i)))), (a6, .inl (cI, 4, .inl rea)), (a8, .inl (cI, 64, .inl rw)), (a12, .inl (cI, 16, .inl cp))] sz) := by
  generalize hF : fX7_best sn tu bs re ot xc xn = T
  refine Met.ofW (cc := cX7_best) (maxL := 9) (ret := (some .int)) (by decide) rfl ?_
  intro p e s m args below meth c s₁ B hml hv
  obtain ⟨rfl, hsz, hP, hK, hD0⟩ := hv
  have hx := B.exec
  have hb := B.bytes
  have hr := B.returns
  have hts := atoms_spec (ws := wsX7_best) B.pre
  have hown : s.vm.findClass RX7 = some m.cls := findClass_of_methodNamed B.named
  have hlocks := B.notSynchronized
  have hinX7 : ∀ w ∈ u_ws RX7 TX7 16, w ∈ wsX7_best := by decide +kernel
  have hf67 := hts (.fieldLink RX7 67 "PulseSignsModel" "bests" "I") (by decide +kernel)
  have hf7 := hts (.fieldLink RX7 7 "PulseSignsModel" "sizes" "[I") (by decide +kernel)
  subst hsz
  have hD := hD0.self (sz := s.heap.size)
  generalize hAe : va_A [(h, .inr (5, [.ref a0, .ref a1, .int (nI fn), .ref a3, .int (nI rn), .ref a5, .ref a6, .int (nI wn), .ref a8, .int (nI bs), .int re, .int ot, .ref a12, .long ab, .long be, .long hh])), (a0, .inl (cI, 6, .inl (fun i => nI (sn i)))), (a1, .inl (cI, 96, .inl tu)), (a3, .inl (cI, 24, .inl we)), (a5, .inl (cI, 4, .inl (fun i => nI (per i)))), (a6, .inl (cI, 4, .inl rea)), (a8, .inl (cI, 64, .inl rw)), (a12, .inl (cI, 16, .inl cp))] s.heap.size = A at hD ⊢
  have hA : ∀ q : Nat, s.heap.size ≤ q → A q := fun q h => by rw [← hAe]; exact Or.inr h
  have hS : va_S A s.heap s.heap [] := va_S.rf
  have hP : va_P D vwCl [(h, .inr (5, [.ref a0, .ref a1, .int (nI fn), .ref a3, .int (nI rn), .ref a5, .ref a6, .int (nI wn), .ref a8, .int (nI bs), .int re, .int ot, .ref a12, .long ab, .long be, .long hh])), (a0, .inl (cI, 6, .inl (fun i => nI (sn i)))), (a1, .inl (cI, 96, .inl tu)), (a3, .inl (cI, 24, .inl we)), (a5, .inl (cI, 4, .inl (fun i => nI (per i)))), (a6, .inl (cI, 4, .inl rea)), (a8, .inl (cI, 64, .inl rw)), (a12, .inl (cI, 16, .inl cp))] s.heap := hP
  have hl := lv_entry ([.ref h, .int xc, .int xn]) (n := 9) (Nat.le_of_ble_eq_true rfl)
  rw [lg_entry_eq]
  generalize (lg_sl ([.ref h, .int xc, .int xn]) ++ List.replicate (9 - (lg_sl ([.ref h, .int xc, .int xn])).length) Slot.unset).toArray = ls at hl ⊢
  refine w_Q (fun Q hQ => ?_)
  have hl : lv_has ls 9 [(0, .ref h), (1, .int xc), (2, .int xn)] := hl
  rw [fX7_best] at hF
  refine lv_iload_n hx hb dX7_best_0 rfl (lv_at hl 1 rfl) ?_
  have hPc := hP.sub (ws' := []) [] rfl
  refine cs_i (va_runS (As := [.int xc]) (rest := []) ⟨hx, hb, hml, hown, hts⟩ (c_X7_isSign l D cI xc ) (va_cwS 1 hts gX7_best_X7_isSign rfl rfl rfl (by decide +kernel) ⟨(Nat.le_of_ble_eq_true rfl), (Nat.le_of_ble_eq_true rfl)⟩) (ro_pre hPc hK) rfl rfl hl.1 rfl (lv_room (Nat.le_of_ble_eq_true rfl)) dX7_best_1 ⟨Nat.zero_le _, Nat.zero_le _⟩) ?_
  refine lv_if_ne (tgt := 10) hx hb dX7_best_4 (by decide) (fun c4 => ?_) (fun c4 => ?_)
  · rw [if_neg c4] at hF
    obtain ⟨cn, hcn, rfl⟩ := sign_nat c4
    have e_cn : (nI cn).toNatClampNeg = cn := nI_clamp (by omega)
    try simp only [e_cn] at hF
    refine lv_iload_n hx hb dX7_best_10 rfl (lv_at hl 2 rfl) ?_
    refine lv_iconst (v := 1) hx hb dX7_best_11 (by decide) ?_
    refine lv_bipush (v := 12) hx hb dX7_best_12 (by decide) ?_
    have hPc := hP.sub (ws' := []) [] rfl
    refine cs_i (va_runS (As := [.int xn, .int 1, .int 12]) (rest := []) ⟨hx, hb, hml, hown, hts⟩ (c_X7_in l D cI xn 1 12 ) (va_cwS 3 hts gX7_best_X7_in rfl rfl rfl (by decide +kernel) ⟨(Nat.le_of_ble_eq_true rfl), (Nat.le_of_ble_eq_true rfl)⟩) (ro_pre hPc hK) rfl rfl hl.1 rfl (lv_room (Nat.le_of_ble_eq_true rfl)) dX7_best_14 ⟨Nat.zero_le _, Nat.zero_le _⟩) ?_
    refine lv_if_ne (tgt := 23) hx hb dX7_best_17 (by decide) (fun c17 => ?_) (fun c17 => ?_)
    · rw [if_neg c17] at hF
      obtain ⟨nn, hnn1, hnn, rfl⟩ := in_nat (a := 1) (b := 12) c17 (by omega)
      have hsu : ∀ c, c < 6 → 1 ≤ updN sn cn nn c ∧ updN sn cn nn c ≤ 16 := updN_ok hsn (by omega) (by omega)
      have hpw : 2 ^ nn ≤ 2 ^ 12 := Nat.pow_le_pow_right (by omega) (by omega)
      have e_nn : (nI nn).toNatClampNeg = nn := nI_clamp (by omega)
      try simp only [e_nn] at hF
      refine lv_aload_n hx hb dX7_best_23 rfl (lv_at hl 0 rfl) ?_
      refine va_get (D := D) (ci := 5) (v := .int (nI bs)) (C := RX7) (T := TX7) (N := 16) hx hb hts hinX7 hown hK.1 hP 0 rfl rfl 9 (by decide) hf67 (fun _ h9 => h9) rfl dX7_best_24 ?_
      refine lv_bipush (v := 30) hx hb dX7_best_27 (by decide) ?_
      refine lv_icmp_ne (tgt := 35) hx hb dX7_best_29 (by decide) (fun c29 => ?_) (fun c29 => ?_)
      · rw [if_neg c29] at hF
        refine lv_aload_n hx hb dX7_best_35 rfl (lv_at hl 0 rfl) ?_
        refine lv_dup hx hb dX7_best_36 rfl ?_
        refine va_get (D := D) (ci := 5) (v := .int (nI bs)) (C := RX7) (T := TX7) (N := 16) hx hb hts hinX7 hown hK.1 hP 0 rfl rfl 9 (by decide) hf67 (fun _ h9 => h9) rfl dX7_best_37 ?_
        refine lv_iconst (v := 1) hx hb dX7_best_40 (by decide) ?_
        refine lv_iadd hx hb dX7_best_41 ?_
        rw [nI_1]
        refine va_put (D := D) (ci := 5) (v := .int (nI (bs + 1))) (ty := .int) (C := RX7) (T := TX7) (N := 16) hx hb hts hinX7 tyX7 tyX7_ok nmX7 hown hK.1 hP hD hS 0 rfl rfl 9 (by decide) hf67 (fun _ h9 => h9) rfl (by decide +kernel) rfl rfl (Nat.le_of_ble_eq_true rfl) dX7_best_42 (fun H locs hP hD hS => ?_)
        have hP : va_P D vwCl [(h, .inr (5, [.ref a0, .ref a1, .int (nI fn), .ref a3, .int (nI rn), .ref a5, .ref a6, .int (nI wn), .ref a8, .int (nI (bs + 1)), .int re, .int ot, .ref a12, .long ab, .long be, .long hh])), (a0, .inl (cI, 6, .inl (fun i => nI (sn i)))), (a1, .inl (cI, 96, .inl tu)), (a3, .inl (cI, 24, .inl we)), (a5, .inl (cI, 4, .inl (fun i => nI (per i)))), (a6, .inl (cI, 4, .inl rea)), (a8, .inl (cI, 64, .inl rw)), (a12, .inl (cI, 16, .inl cp))] H := hP
        have hD : va_D A [(h, .inr (5, [.ref a0, .ref a1, .int (nI fn), .ref a3, .int (nI rn), .ref a5, .ref a6, .int (nI wn), .ref a8, .int (nI (bs + 1)), .int re, .int ot, .ref a12, .long ab, .long be, .long hh])), (a0, .inl (cI, 6, .inl (fun i => nI (sn i)))), (a1, .inl (cI, 96, .inl tu)), (a3, .inl (cI, 24, .inl we)), (a5, .inl (cI, 4, .inl (fun i => nI (per i)))), (a6, .inl (cI, 4, .inl rea)), (a8, .inl (cI, 64, .inl rw)), (a12, .inl (cI, 16, .inl cp))] := hD
        refine lv_aload_n hx hb dX7_best_45 rfl (lv_at hl 0 rfl) ?_
        refine va_get (D := D) (ci := 5) (v := .ref a0) (C := RX7) (T := TX7) (N := 16) hx hb hts hinX7 hown hK.1 hP 0 rfl rfl 0 (by decide) hf7 (fun _ h9 => h9) rfl dX7_best_46 ?_
        refine lv_iload_n hx hb dX7_best_49 rfl (lv_at hl 1 rfl) ?_
        refine lv_iload_n hx hb dX7_best_50 rfl (lv_at hl 2 rfl) ?_
        refine w_ast hx hb hK hP hD hS 1 0 rfl rfl (cn) rfl (by omega) (by omega) dX7_best_51 (fun H locs hP hD hS => ?_)
        rw [updN_row] at hP hD
        have hP : va_P D vwCl [(h, .inr (5, [.ref a0, .ref a1, .int (nI fn), .ref a3, .int (nI rn), .ref a5, .ref a6, .int (nI wn), .ref a8, .int (nI (bs + 1)), .int re, .int ot, .ref a12, .long ab, .long be, .long hh])), (a0, .inl (cI, 6, .inl (fun i => nI ((updN sn cn nn) i)))), (a1, .inl (cI, 96, .inl tu)), (a3, .inl (cI, 24, .inl we)), (a5, .inl (cI, 4, .inl (fun i => nI (per i)))), (a6, .inl (cI, 4, .inl rea)), (a8, .inl (cI, 64, .inl rw)), (a12, .inl (cI, 16, .inl cp))] H := hP
        have hD : va_D A [(h, .inr (5, [.ref a0, .ref a1, .int (nI fn), .ref a3, .int (nI rn), .ref a5, .ref a6, .int (nI wn), .ref a8, .int (nI (bs + 1)), .int re, .int ot, .ref a12, .long ab, .long be, .long hh])), (a0, .inl (cI, 6, .inl (fun i => nI ((updN sn cn nn) i)))), (a1, .inl (cI, 96, .inl tu)), (a3, .inl (cI, 24, .inl we)), (a5, .inl (cI, 4, .inl (fun i => nI (per i)))), (a6, .inl (cI, 4, .inl rea)), (a8, .inl (cI, 64, .inl rw)), (a12, .inl (cI, 16, .inl cp))] := hD
        refine lv_iconst (v := (-1)) hx hb dX7_best_52 (by decide) ?_
        refine lv_istore_n (lv' := [(3, .int (-1)), (0, .ref h), (1, .int (nI cn)), (2, .int (nI nn))]) hx hb dX7_best_53 rfl hl (by decide) rfl (fun ls hl => ?_)
        refine lv_iconst (v := 0) hx hb dX7_best_54 (by decide) ?_
        refine lv_istore (lv' := [(4, .int 0), (3, .int (-1)), (0, .ref h), (1, .int (nI cn)), (2, .int (nI nn))]) hx hb dX7_best_55 hl (by decide) rfl (fun ls hl => ?_)
        refine lv_iconst (v := 0) hx hb dX7_best_57 (by decide) ?_
        refine lv_istore (lv' := [(5, .int 0), (4, .int 0), (3, .int (-1)), (0, .ref h), (1, .int (nI cn)), (2, .int (nI nn))]) hx hb dX7_best_58 hl (by decide) rfl (fun ls hl => ?_)
        refine lv_iconst (v := 0) hx hb dX7_best_60 (by decide) ?_
        refine lv_istore (lv' := [(6, .int 0), (5, .int 0), (4, .int 0), (3, .int (-1)), (0, .ref h), (1, .int (nI cn)), (2, .int (nI nn))]) hx hb dX7_best_61 hl (by decide) rfl (fun ls hl => ?_)
        have lp63 : ∀ (r63 k63 : Nat) (x3 : Int32) (x4 : Int32) (x5 : Int32) (tu : Nat → Int32) (re : Int32) (ot : Int32) (H : Heap) (locs : List Loc) (ls : Array Slot), r63 = (2 ^ nn) - k63 → k63 ≤ (2 ^ nn) + 1 → va_P D vwCl [(h, .inr (5, [.ref a0, .ref a1, .int (nI fn), .ref a3, .int (nI rn), .ref a5, .ref a6, .int (nI wn), .ref a8, .int (nI (bs + 1)), .int re, .int ot, .ref a12, .long ab, .long be, .long hh])), (a0, .inl (cI, 6, .inl (fun i => nI ((updN sn cn nn) i)))), (a1, .inl (cI, 96, .inl tu)), (a3, .inl (cI, 24, .inl we)), (a5, .inl (cI, 4, .inl (fun i => nI (per i)))), (a6, .inl (cI, 4, .inl rea)), (a8, .inl (cI, 64, .inl rw)), (a12, .inl (cI, 16, .inl cp))] H → va_D A [(h, .inr (5, [.ref a0, .ref a1, .int (nI fn), .ref a3, .int (nI rn), .ref a5, .ref a6, .int (nI wn), .ref a8, .int (nI (bs + 1)), .int re, .int ot, .ref a12, .long ab, .long be, .long hh])), (a0, .inl (cI, 6, .inl (fun i => nI ((updN sn cn nn) i)))), (a1, .inl (cI, 96, .inl tu)), (a3, .inl (cI, 24, .inl we)), (a5, .inl (cI, 4, .inl (fun i => nI (per i)))), (a6, .inl (cI, 4, .inl rea)), (a8, .inl (cI, 64, .inl rw)), (a12, .inl (cI, 16, .inl cp))] → va_S A s.heap H locs → lv_has ls 9 [(0, .ref h), (1, .int (nI cn)), (2, .int (nI nn)), (3, .int x3), (4, .int x4), (5, .int x5), (6, .int (nI k63))] → F_X7_best_63 sn bs cn nn r63 k63 x3 x4 x5 tu re ot = T → W p l e (headSpec wsX7_best rmX7_best).room s m ([.ref h, .int (nI cn), .int (nI nn)] : List Value).toArray below meth c H locs 0 0 Q (F0 m 63 ls []) := by
          intro r63
          induction r63 with
          | zero =>
            intro k63 x3 x4 x5 tu re ot H locs ls hi63_0 hi63_1 hP hD hS hl hF
            rw [F_X7_best_63] at hF
            refine lv_iload hx hb dX7_best_63 (lv_at hl 6 rfl) ?_
            refine lv_iconst (v := 1) hx hb dX7_best_65 (by decide) ?_
            refine lv_iload_n hx hb dX7_best_66 rfl (lv_at hl 2 rfl) ?_
            refine lv_ishl hx hb dX7_best_67 ?_
            refine lv_icmp_ge (tgt := 139) hx hb dX7_best_68 (by decide) (fun c68 => ?_) (fun c68 => ?_)
            · skip
              refine lv_aload_n hx hb dX7_best_139 rfl (lv_at hl 0 rfl) ?_
              refine lv_iload_n hx hb dX7_best_140 rfl (lv_at hl 1 rfl) ?_
              refine lv_iload_n hx hb dX7_best_141 rfl (lv_at hl 2 rfl) ?_
              refine lv_iload hx hb dX7_best_142 (lv_at hl 5 rfl) ?_
              refine cw_v (va_runV (As := [.int (nI cn), .int (nI nn), .int x5]) (rest := []) ⟨hx, hb, hml, hown, hts⟩ (c_X7_lay l D cI H.size h a0 a1 a3 a5 a6 a8 a12 (updN sn cn nn) tu fn we rn per rea wn rw (bs + 1) re ot cp ab be hh cn nn x5 (by first | assumption | omega) (by first | assumption | omega)) (cwV 3 hts gX7_best_X7_lay rfl rfl rfl (by decide +kernel) ⟨(Nat.le_of_ble_eq_true rfl), (Nat.le_of_ble_eq_true rfl)⟩) (wr_preV hP hD hK rfl (q0 := 0) rfl) rfl rfl hl.1 rfl (lv_room (Nat.le_of_ble_eq_true rfl)) dX7_best_144 ⟨Nat.zero_le _, Nat.zero_le _⟩) hP hD hS hA [0, 1, 2, 3, 4, 5, 6, 7] rfl rfl (fun H locs hP hD hS => ?_)
              have hP : va_P D vwCl [(h, .inr (5, [.ref a0, .ref a1, .int (nI fn), .ref a3, .int (nI rn), .ref a5, .ref a6, .int (nI wn), .ref a8, .int (nI (bs + 1)), .int re, .int ot, .ref a12, .long ab, .long be, .long hh])), (a0, .inl (cI, 6, .inl (fun i => nI ((updN sn cn nn) i)))), (a1, .inl (cI, 96, .inl (fX7_lay tu cn nn x5))), (a3, .inl (cI, 24, .inl we)), (a5, .inl (cI, 4, .inl (fun i => nI (per i)))), (a6, .inl (cI, 4, .inl rea)), (a8, .inl (cI, 64, .inl rw)), (a12, .inl (cI, 16, .inl cp))] H := hP
              have hD : va_D A [(h, .inr (5, [.ref a0, .ref a1, .int (nI fn), .ref a3, .int (nI rn), .ref a5, .ref a6, .int (nI wn), .ref a8, .int (nI (bs + 1)), .int re, .int ot, .ref a12, .long ab, .long be, .long hh])), (a0, .inl (cI, 6, .inl (fun i => nI ((updN sn cn nn) i)))), (a1, .inl (cI, 96, .inl (fX7_lay tu cn nn x5))), (a3, .inl (cI, 24, .inl we)), (a5, .inl (cI, 4, .inl (fun i => nI (per i)))), (a6, .inl (cI, 4, .inl rea)), (a8, .inl (cI, 64, .inl rw)), (a12, .inl (cI, 16, .inl cp))] := hD
              refine lv_iload_n hx hb dX7_best_147 rfl (lv_at hl 3 rfl) ?_
              subst hF
              subst hQ
              exact W.iret (v := x3) hx hb hr (fun u9 ht hW => ⟨⟨_, (), rfl, rfl, by rw [← ht] at hP; exact hP⟩, hS.F ht⟩) hS.2.2 dX7_best_148
            · exact False.elim (c68 (by rw [shl2 hnn]; exact nI_le (by omega) (by omega)))
          | succ r63 ih63 =>
            intro k63 x3 x4 x5 tu re ot H locs ls hi63_0 hi63_1 hP hD hS hl hF
            rw [F_X7_best_63] at hF
            refine lv_iload hx hb dX7_best_63 (lv_at hl 6 rfl) ?_
            refine lv_iconst (v := 1) hx hb dX7_best_65 (by decide) ?_
            refine lv_iload_n hx hb dX7_best_66 rfl (lv_at hl 2 rfl) ?_
            refine lv_ishl hx hb dX7_best_67 ?_
            refine lv_icmp_ge (tgt := 139) hx hb dX7_best_68 (by decide) (fun c68 => ?_) (fun c68 => ?_)
            · exact False.elim ((by rw [shl2 hnn] at c68; exact nI_ge (by omega) (by omega) c68))
            · skip
              refine lv_aload_n hx hb dX7_best_71 rfl (lv_at hl 0 rfl) ?_
              refine lv_iload_n hx hb dX7_best_72 rfl (lv_at hl 1 rfl) ?_
              refine lv_iload_n hx hb dX7_best_73 rfl (lv_at hl 2 rfl) ?_
              refine lv_iload hx hb dX7_best_74 (lv_at hl 6 rfl) ?_
              refine cw_v (va_runV (As := [.int (nI cn), .int (nI nn), .int (nI k63)]) (rest := []) ⟨hx, hb, hml, hown, hts⟩ (c_X7_lay l D cI H.size h a0 a1 a3 a5 a6 a8 a12 (updN sn cn nn) tu fn we rn per rea wn rw (bs + 1) re ot cp ab be hh cn nn (nI k63) (by first | assumption | omega) (by first | assumption | omega)) (cwV 3 hts gX7_best_X7_lay rfl rfl rfl (by decide +kernel) ⟨(Nat.le_of_ble_eq_true rfl), (Nat.le_of_ble_eq_true rfl)⟩) (wr_preV hP hD hK rfl (q0 := 0) rfl) rfl rfl hl.1 rfl (lv_room (Nat.le_of_ble_eq_true rfl)) dX7_best_76 ⟨Nat.zero_le _, Nat.zero_le _⟩) hP hD hS hA [0, 1, 2, 3, 4, 5, 6, 7] rfl rfl (fun H locs hP hD hS => ?_)
              have hP : va_P D vwCl [(h, .inr (5, [.ref a0, .ref a1, .int (nI fn), .ref a3, .int (nI rn), .ref a5, .ref a6, .int (nI wn), .ref a8, .int (nI (bs + 1)), .int re, .int ot, .ref a12, .long ab, .long be, .long hh])), (a0, .inl (cI, 6, .inl (fun i => nI ((updN sn cn nn) i)))), (a1, .inl (cI, 96, .inl (fX7_lay tu cn nn (nI k63)))), (a3, .inl (cI, 24, .inl we)), (a5, .inl (cI, 4, .inl (fun i => nI (per i)))), (a6, .inl (cI, 4, .inl rea)), (a8, .inl (cI, 64, .inl rw)), (a12, .inl (cI, 16, .inl cp))] H := hP
              have hD : va_D A [(h, .inr (5, [.ref a0, .ref a1, .int (nI fn), .ref a3, .int (nI rn), .ref a5, .ref a6, .int (nI wn), .ref a8, .int (nI (bs + 1)), .int re, .int ot, .ref a12, .long ab, .long be, .long hh])), (a0, .inl (cI, 6, .inl (fun i => nI ((updN sn cn nn) i)))), (a1, .inl (cI, 96, .inl (fX7_lay tu cn nn (nI k63)))), (a3, .inl (cI, 24, .inl we)), (a5, .inl (cI, 4, .inl (fun i => nI (per i)))), (a6, .inl (cI, 4, .inl rea)), (a8, .inl (cI, 64, .inl rw)), (a12, .inl (cI, 16, .inl cp))] := hD
              refine lv_aload_n hx hb dX7_best_79 rfl (lv_at hl 0 rfl) ?_
              refine lv_iload_n hx hb dX7_best_80 rfl (lv_at hl 1 rfl) ?_
              refine cw_i (va_runV (As := [.int (nI cn)]) (rest := []) ⟨hx, hb, hml, hown, hts⟩ (c_X7_peakOf l D cI H.size h a0 a1 a3 a5 a6 a8 a12 (updN sn cn nn) (fX7_lay tu cn nn (nI k63)) fn we rn per rea wn rw (bs + 1) re ot cp ab be hh cn hsu (by omega)) (cwV 1 hts gX7_best_X7_peakOf rfl rfl rfl (by decide +kernel) ⟨(Nat.le_of_ble_eq_true rfl), (Nat.le_of_ble_eq_true rfl)⟩) (wr_preV hP hD hK rfl (q0 := 0) rfl) rfl rfl hl.1 rfl (lv_room (Nat.le_of_ble_eq_true rfl)) dX7_best_81 ⟨Nat.zero_le _, Nat.zero_le _⟩) hP hD hS hA [0, 1, 2, 3, 4, 5, 6, 7] rfl rfl (fun H locs hP hD hS => ?_)
              have hP : va_P D vwCl [(h, .inr (5, [.ref a0, .ref a1, .int (nI fn), .ref a3, .int (nI rn), .ref a5, .ref a6, .int (nI wn), .ref a8, .int (nI (bs + 1)), .int ((fX7_peakOf (updN sn cn nn) (fX7_lay tu cn nn (nI k63)) re ot cn).2.1), .int ((fX7_peakOf (updN sn cn nn) (fX7_lay tu cn nn (nI k63)) re ot cn).2.2), .ref a12, .long ab, .long be, .long hh])), (a0, .inl (cI, 6, .inl (fun i => nI ((updN sn cn nn) i)))), (a1, .inl (cI, 96, .inl (fX7_lay tu cn nn (nI k63)))), (a3, .inl (cI, 24, .inl we)), (a5, .inl (cI, 4, .inl (fun i => nI (per i)))), (a6, .inl (cI, 4, .inl rea)), (a8, .inl (cI, 64, .inl rw)), (a12, .inl (cI, 16, .inl cp))] H := hP
              have hD : va_D A [(h, .inr (5, [.ref a0, .ref a1, .int (nI fn), .ref a3, .int (nI rn), .ref a5, .ref a6, .int (nI wn), .ref a8, .int (nI (bs + 1)), .int ((fX7_peakOf (updN sn cn nn) (fX7_lay tu cn nn (nI k63)) re ot cn).2.1), .int ((fX7_peakOf (updN sn cn nn) (fX7_lay tu cn nn (nI k63)) re ot cn).2.2), .ref a12, .long ab, .long be, .long hh])), (a0, .inl (cI, 6, .inl (fun i => nI ((updN sn cn nn) i)))), (a1, .inl (cI, 96, .inl (fX7_lay tu cn nn (nI k63)))), (a3, .inl (cI, 24, .inl we)), (a5, .inl (cI, 4, .inl (fun i => nI (per i)))), (a6, .inl (cI, 4, .inl rea)), (a8, .inl (cI, 64, .inl rw)), (a12, .inl (cI, 16, .inl cp))] := hD
              refine lv_istore (lv' := [(7, .int ((fX7_peakOf (updN sn cn nn) (fX7_lay tu cn nn (nI k63)) re ot cn).1)), (0, .ref h), (1, .int (nI cn)), (2, .int (nI nn)), (3, .int x3), (4, .int x4), (5, .int x5), (6, .int (nI k63))]) hx hb dX7_best_84 hl (by decide) rfl (fun ls hl => ?_)
              refine lv_iload_n hx hb dX7_best_86 rfl (lv_at hl 4 rfl) ?_
              refine lv_iconst (v := (-1)) hx hb dX7_best_87 (by decide) ?_
              refine lv_icmp_eq (tgt := 97) hx hb dX7_best_88 (by decide) (fun c88 => ?_) (fun c88 => ?_)
              · rw [if_pos c88] at hF
                refine lv_aload_n hx hb dX7_best_97 rfl (lv_at hl 1 rfl) ?_
                refine lv_iload_n hx hb dX7_best_98 rfl (lv_at hl 2 rfl) ?_
                refine cw_i (va_runV (As := [.int (nI cn)]) (rest := []) ⟨hx, hb, hml, hown, hts⟩ (c_X7_flankOf l D cI H.size h a0 a1 a3 a5 a6 a8 a12 (updN sn cn nn) (fX7_lay tu cn nn (nI k63)) fn we rn per rea wn rw (bs + 1) ((fX7_peakOf (updN sn cn nn) (fX7_lay tu cn nn (nI k63)) re ot cn).2.1) ((fX7_peakOf (updN sn cn nn) (fX7_lay tu cn nn (nI k63)) re ot cn).2.2) cp ab be hh cn hsu (by omega)) (cwV 1 hts gX7_best_X7_flankOf rfl rfl rfl (by decide +kernel) ⟨(Nat.le_of_ble_eq_true rfl), (Nat.le_of_ble_eq_true rfl)⟩) (wr_preV hP hD hK rfl (q0 := 0) rfl) rfl rfl hl.1 rfl (lv_room (Nat.le_of_ble_eq_true rfl)) dX7_best_99 ⟨Nat.zero_le _, Nat.zero_le _⟩) hP hD hS hA [0, 1, 2, 3, 4, 5, 6, 7] rfl rfl (fun H locs hP hD hS => ?_)
                have hP : va_P D vwCl [(h, .inr (5, [.ref a0, .ref a1, .int (nI fn), .ref a3, .int (nI rn), .ref a5, .ref a6, .int (nI wn), .ref a8, .int (nI (bs + 1)), .int ((fX7_flankOf (updN sn cn nn) (fX7_lay tu cn nn (nI k63)) ((fX7_peakOf (updN sn cn nn) (fX7_lay tu cn nn (nI k63)) re ot cn).2.1) ((fX7_peakOf (updN sn cn nn) (fX7_lay tu cn nn (nI k63)) re ot cn).2.2) cn).2.1), .int ((fX7_flankOf (updN sn cn nn) (fX7_lay tu cn nn (nI k63)) ((fX7_peakOf (updN sn cn nn) (fX7_lay tu cn nn (nI k63)) re ot cn).2.1) ((fX7_peakOf (updN sn cn nn) (fX7_lay tu cn nn (nI k63)) re ot cn).2.2) cn).2.2), .ref a12, .long ab, .long be, .long hh])), (a0, .inl (cI, 6, .inl (fun i => nI ((updN sn cn nn) i)))), (a1, .inl (cI, 96, .inl (fX7_lay tu cn nn (nI k63)))), (a3, .inl (cI, 24, .inl we)), (a5, .inl (cI, 4, .inl (fun i => nI (per i)))), (a6, .inl (cI, 4, .inl rea)), (a8, .inl (cI, 64, .inl rw)), (a12, .inl (cI, 16, .inl cp))] H := hP
                have hD : va_D A [(h, .inr (5, [.ref a0, .ref a1, .int (nI fn), .ref a3, .int (nI rn), .ref a5, .ref a6, .int (nI wn), .ref a8, .int (nI (bs + 1)), .int ((fX7_flankOf (updN sn cn nn) (fX7_lay tu cn nn (nI k63)) ((fX7_peakOf (updN sn cn nn) (fX7_lay tu cn nn (nI k63)) re ot cn).2.1) ((fX7_peakOf (updN sn cn nn) (fX7_lay tu cn nn (nI k63)) re ot cn).2.2) cn).2.1), .int ((fX7_flankOf (updN sn cn nn) (fX7_lay tu cn nn (nI k63)) ((fX7_peakOf (updN sn cn nn) (fX7_lay tu cn nn (nI k63)) re ot cn).2.1) ((fX7_peakOf (updN sn cn nn) (fX7_lay tu cn nn (nI k63)) re ot cn).2.2) cn).2.2), .ref a12, .long ab, .long be, .long hh])), (a0, .inl (cI, 6, .inl (fun i => nI ((updN sn cn nn) i)))), (a1, .inl (cI, 96, .inl (fX7_lay tu cn nn (nI k63)))), (a3, .inl (cI, 24, .inl we)), (a5, .inl (cI, 4, .inl (fun i => nI (per i)))), (a6, .inl (cI, 4, .inl rea)), (a8, .inl (cI, 64, .inl rw)), (a12, .inl (cI, 16, .inl cp))] := hD
                refine lv_istore (lv' := [(8, .int ((fX7_flankOf (updN sn cn nn) (fX7_lay tu cn nn (nI k63)) ((fX7_peakOf (updN sn cn nn) (fX7_lay tu cn nn (nI k63)) re ot cn).2.1) ((fX7_peakOf (updN sn cn nn) (fX7_lay tu cn nn (nI k63)) re ot cn).2.2) cn).1)), (7, .int ((fX7_peakOf (updN sn cn nn) (fX7_lay tu cn nn (nI k63)) re ot cn).1)), (0, .ref h), (1, .int (nI cn)), (2, .int (nI nn)), (3, .int x3), (4, .int x4), (5, .int x5), (6, .int (nI k63))]) hx hb dX7_best_102 hl (by decide) rfl (fun ls hl => ?_)
                refine lv_iload_n hx hb dX7_best_104 rfl (lv_at hl 5 rfl) ?_
                refine lv_iconst (v := (-1)) hx hb dX7_best_105 (by decide) ?_
                refine lv_icmp_eq (tgt := 122) hx hb dX7_best_106 (by decide) (fun c106 => ?_) (fun c106 => ?_)
                · rw [if_pos c106] at hF
                  refine lv_iload hx hb dX7_best_122 (lv_at hl 1 rfl) ?_
                  refine lv_istore_n (lv' := [(3, .int ((fX7_peakOf (updN sn cn nn) (fX7_lay tu cn nn (nI k63)) re ot cn).1)), (8, .int ((fX7_flankOf (updN sn cn nn) (fX7_lay tu cn nn (nI k63)) ((fX7_peakOf (updN sn cn nn) (fX7_lay tu cn nn (nI k63)) re ot cn).2.1) ((fX7_peakOf (updN sn cn nn) (fX7_lay tu cn nn (nI k63)) re ot cn).2.2) cn).1)), (7, .int ((fX7_peakOf (updN sn cn nn) (fX7_lay tu cn nn (nI k63)) re ot cn).1)), (0, .ref h), (1, .int (nI cn)), (2, .int (nI nn)), (4, .int x4), (5, .int x5), (6, .int (nI k63))]) hx hb dX7_best_124 rfl hl (by decide) rfl (fun ls hl => ?_)
                  refine lv_iload hx hb dX7_best_125 (lv_at hl 1 rfl) ?_
                  refine lv_istore (lv' := [(4, .int ((fX7_flankOf (updN sn cn nn) (fX7_lay tu cn nn (nI k63)) ((fX7_peakOf (updN sn cn nn) (fX7_lay tu cn nn (nI k63)) re ot cn).2.1) ((fX7_peakOf (updN sn cn nn) (fX7_lay tu cn nn (nI k63)) re ot cn).2.2) cn).1)), (3, .int ((fX7_peakOf (updN sn cn nn) (fX7_lay tu cn nn (nI k63)) re ot cn).1)), (8, .int ((fX7_flankOf (updN sn cn nn) (fX7_lay tu cn nn (nI k63)) ((fX7_peakOf (updN sn cn nn) (fX7_lay tu cn nn (nI k63)) re ot cn).2.1) ((fX7_peakOf (updN sn cn nn) (fX7_lay tu cn nn (nI k63)) re ot cn).2.2) cn).1)), (7, .int ((fX7_peakOf (updN sn cn nn) (fX7_lay tu cn nn (nI k63)) re ot cn).1)), (0, .ref h), (1, .int (nI cn)), (2, .int (nI nn)), (5, .int x5), (6, .int (nI k63))]) hx hb dX7_best_127 hl (by decide) rfl (fun ls hl => ?_)
                  refine lv_iload hx hb dX7_best_129 (lv_at hl 8 rfl) ?_
                  refine lv_istore (lv' := [(5, .int (nI k63)), (4, .int ((fX7_flankOf (updN sn cn nn) (fX7_lay tu cn nn (nI k63)) ((fX7_peakOf (updN sn cn nn) (fX7_lay tu cn nn (nI k63)) re ot cn).2.1) ((fX7_peakOf (updN sn cn nn) (fX7_lay tu cn nn (nI k63)) re ot cn).2.2) cn).1)), (3, .int ((fX7_peakOf (updN sn cn nn) (fX7_lay tu cn nn (nI k63)) re ot cn).1)), (8, .int ((fX7_flankOf (updN sn cn nn) (fX7_lay tu cn nn (nI k63)) ((fX7_peakOf (updN sn cn nn) (fX7_lay tu cn nn (nI k63)) re ot cn).2.1) ((fX7_peakOf (updN sn cn nn) (fX7_lay tu cn nn (nI k63)) re ot cn).2.2) cn).1)), (7, .int ((fX7_peakOf (updN sn cn nn) (fX7_lay tu cn nn (nI k63)) re ot cn).1)), (0, .ref h), (1, .int (nI cn)), (2, .int (nI nn)), (6, .int (nI k63))]) hx hb dX7_best_131 hl (by decide) rfl (fun ls hl => ?_)
                  refine lv_iinc (v := nI (k63 + 1)) (lv' := [(6, .int (nI (k63 + 1))), (5, .int (nI k63)), (4, .int ((fX7_flankOf (updN sn cn nn) (fX7_lay tu cn nn (nI k63)) ((fX7_peakOf (updN sn cn nn) (fX7_lay tu cn nn (nI k63)) re ot cn).2.1) ((fX7_peakOf (updN sn cn nn) (fX7_lay tu cn nn (nI k63)) re ot cn).2.2) cn).1)), (3, .int ((fX7_peakOf (updN sn cn nn) (fX7_lay tu cn nn (nI k63)) re ot cn).1)), (8, .int ((fX7_flankOf (updN sn cn nn) (fX7_lay tu cn nn (nI k63)) ((fX7_peakOf (updN sn cn nn) (fX7_lay tu cn nn (nI k63)) re ot cn).2.1) ((fX7_peakOf (updN sn cn nn) (fX7_lay tu cn nn (nI k63)) re ot cn).2.2) cn).1)), (7, .int ((fX7_peakOf (updN sn cn nn) (fX7_lay tu cn nn (nI k63)) re ot cn).1)), (0, .ref h), (1, .int (nI cn)), (2, .int (nI nn))]) hx hb dX7_best_133 hl (k := 8) rfl (nI_1 _) (by decide) rfl (fun ls hl => ?_)
                  refine lv_goto (tgt := 63) hx hb dX7_best_136 (by decide) ?_
                  exact ih63 (k63 + 1) ((fX7_peakOf (updN sn cn nn) (fX7_lay tu cn nn (nI k63)) re ot cn).1) ((fX7_flankOf (updN sn cn nn) (fX7_lay tu cn nn (nI k63)) ((fX7_peakOf (updN sn cn nn) (fX7_lay tu cn nn (nI k63)) re ot cn).2.1) ((fX7_peakOf (updN sn cn nn) (fX7_lay tu cn nn (nI k63)) re ot cn).2.2) cn).1) (nI k63) (fX7_lay tu cn nn (nI k63)) ((fX7_flankOf (updN sn cn nn) (fX7_lay tu cn nn (nI k63)) ((fX7_peakOf (updN sn cn nn) (fX7_lay tu cn nn (nI k63)) re ot cn).2.1) ((fX7_peakOf (updN sn cn nn) (fX7_lay tu cn nn (nI k63)) re ot cn).2.2) cn).2.1) ((fX7_flankOf (updN sn cn nn) (fX7_lay tu cn nn (nI k63)) ((fX7_peakOf (updN sn cn nn) (fX7_lay tu cn nn (nI k63)) re ot cn).2.1) ((fX7_peakOf (updN sn cn nn) (fX7_lay tu cn nn (nI k63)) re ot cn).2.2) cn).2.2) H locs ls (by omega) (by omega) hP hD hS (lv_sub hl [6, 7, 8, 3, 2, 1, 0] rfl) hF
                · rw [if_neg c106] at hF
                  refine lv_iload hx hb dX7_best_109 (lv_at hl 1 rfl) ?_
                  refine lv_iload_n hx hb dX7_best_111 rfl (lv_at hl 5 rfl) ?_
                  refine lv_icmp_lt (tgt := 122) hx hb dX7_best_112 (by decide) (fun c112 => ?_) (fun c112 => ?_)
                  · rw [if_pos c112] at hF
                    refine lv_iload hx hb dX7_best_122 (lv_at hl 1 rfl) ?_
                    refine lv_istore_n (lv' := [(3, .int ((fX7_peakOf (updN sn cn nn) (fX7_lay tu cn nn (nI k63)) re ot cn).1)), (8, .int ((fX7_flankOf (updN sn cn nn) (fX7_lay tu cn nn (nI k63)) ((fX7_peakOf (updN sn cn nn) (fX7_lay tu cn nn (nI k63)) re ot cn).2.1) ((fX7_peakOf (updN sn cn nn) (fX7_lay tu cn nn (nI k63)) re ot cn).2.2) cn).1)), (7, .int ((fX7_peakOf (updN sn cn nn) (fX7_lay tu cn nn (nI k63)) re ot cn).1)), (0, .ref h), (1, .int (nI cn)), (2, .int (nI nn)), (4, .int x4), (5, .int x5), (6, .int (nI k63))]) hx hb dX7_best_124 rfl hl (by decide) rfl (fun ls hl => ?_)
                    refine lv_iload hx hb dX7_best_125 (lv_at hl 1 rfl) ?_
                    refine lv_istore (lv' := [(4, .int ((fX7_flankOf (updN sn cn nn) (fX7_lay tu cn nn (nI k63)) ((fX7_peakOf (updN sn cn nn) (fX7_lay tu cn nn (nI k63)) re ot cn).2.1) ((fX7_peakOf (updN sn cn nn) (fX7_lay tu cn nn (nI k63)) re ot cn).2.2) cn).1)), (3, .int ((fX7_peakOf (updN sn cn nn) (fX7_lay tu cn nn (nI k63)) re ot cn).1)), (8, .int ((fX7_flankOf (updN sn cn nn) (fX7_lay tu cn nn (nI k63)) ((fX7_peakOf (updN sn cn nn) (fX7_lay tu cn nn (nI k63)) re ot cn).2.1) ((fX7_peakOf (updN sn cn nn) (fX7_lay tu cn nn (nI k63)) re ot cn).2.2) cn).1)), (7, .int ((fX7_peakOf (updN sn cn nn) (fX7_lay tu cn nn (nI k63)) re ot cn).1)), (0, .ref h), (1, .int (nI cn)), (2, .int (nI nn)), (5, .int x5), (6, .int (nI k63))]) hx hb dX7_best_127 hl (by decide) rfl (fun ls hl => ?_)
                    refine lv_iload hx hb dX7_best_129 (lv_at hl 8 rfl) ?_
                    refine lv_istore (lv' := [(5, .int (nI k63)), (4, .int ((fX7_flankOf (updN sn cn nn) (fX7_lay tu cn nn (nI k63)) ((fX7_peakOf (updN sn cn nn) (fX7_lay tu cn nn (nI k63)) re ot cn).2.1) ((fX7_peakOf (updN sn cn nn) (fX7_lay tu cn nn (nI k63)) re ot cn).2.2) cn).1)), (3, .int ((fX7_peakOf (updN sn cn nn) (fX7_lay tu cn nn (nI k63)) re ot cn).1)), (8, .int ((fX7_flankOf (updN sn cn nn) (fX7_lay tu cn nn (nI k63)) ((fX7_peakOf (updN sn cn nn) (fX7_lay tu cn nn (nI k63)) re ot cn).2.1) ((fX7_peakOf (updN sn cn nn) (fX7_lay tu cn nn (nI k63)) re ot cn).2.2) cn).1)), (7, .int ((fX7_peakOf (updN sn cn nn) (fX7_lay tu cn nn (nI k63)) re ot cn).1)), (0, .ref h), (1, .int (nI cn)), (2, .int (nI nn)), (6, .int (nI k63))]) hx hb dX7_best_131 hl (by decide) rfl (fun ls hl => ?_)
                    refine lv_iinc (v := nI (k63 + 1)) (lv' := [(6, .int (nI (k63 + 1))), (5, .int (nI k63)), (4, .int ((fX7_flankOf (updN sn cn nn) (fX7_lay tu cn nn (nI k63)) ((fX7_peakOf (updN sn cn nn) (fX7_lay tu cn nn (nI k63)) re ot cn).2.1) ((fX7_peakOf (updN sn cn nn) (fX7_lay tu cn nn (nI k63)) re ot cn).2.2) cn).1)), (3, .int ((fX7_peakOf (updN sn cn nn) (fX7_lay tu cn nn (nI k63)) re ot cn).1)), (8, .int ((fX7_flankOf (updN sn cn nn) (fX7_lay tu cn nn (nI k63)) ((fX7_peakOf (updN sn cn nn) (fX7_lay tu cn nn (nI k63)) re ot cn).2.1) ((fX7_peakOf (updN sn cn nn) (fX7_lay tu cn nn (nI k63)) re ot cn).2.2) cn).1)), (7, .int ((fX7_peakOf (updN sn cn nn) (fX7_lay tu cn nn (nI k63)) re ot cn).1)), (0, .ref h), (1, .int (nI cn)), (2, .int (nI nn))]) hx hb dX7_best_133 hl (k := 8) rfl (nI_1 _) (by decide) rfl (fun ls hl => ?_)
                    refine lv_goto (tgt := 63) hx hb dX7_best_136 (by decide) ?_
                    exact ih63 (k63 + 1) ((fX7_peakOf (updN sn cn nn) (fX7_lay tu cn nn (nI k63)) re ot cn).1) ((fX7_flankOf (updN sn cn nn) (fX7_lay tu cn nn (nI k63)) ((fX7_peakOf (updN sn cn nn) (fX7_lay tu cn nn (nI k63)) re ot cn).2.1) ((fX7_peakOf (updN sn cn nn) (fX7_lay tu cn nn (nI k63)) re ot cn).2.2) cn).1) (nI k63) (fX7_lay tu cn nn (nI k63)) ((fX7_flankOf (updN sn cn nn) (fX7_lay tu cn nn (nI k63)) ((fX7_peakOf (updN sn cn nn) (fX7_lay tu cn nn (nI k63)) re ot cn).2.1) ((fX7_peakOf (updN sn cn nn) (fX7_lay tu cn nn (nI k63)) re ot cn).2.2) cn).2.1) ((fX7_flankOf (updN sn cn nn) (fX7_lay tu cn nn (nI k63)) ((fX7_peakOf (updN sn cn nn) (fX7_lay tu cn nn (nI k63)) re ot cn).2.1) ((fX7_peakOf (updN sn cn nn) (fX7_lay tu cn nn (nI k63)) re ot cn).2.2) cn).2.2) H locs ls (by omega) (by omega) hP hD hS (lv_sub hl [6, 7, 8, 3, 2, 1, 0] rfl) hF
                  · rw [if_neg c112] at hF
                    refine lv_iload hx hb dX7_best_115 (lv_at hl 0 rfl) ?_
                    refine lv_iload hx hb dX7_best_117 (lv_at hl 6 rfl) ?_
                    refine lv_icmp_ge (tgt := 133) hx hb dX7_best_119 (by decide) (fun c119 => ?_) (fun c119 => ?_)
                    · rw [if_pos c119] at hF
                      refine lv_iinc (v := nI (k63 + 1)) (lv' := [(6, .int (nI (k63 + 1))), (8, .int ((fX7_flankOf (updN sn cn nn) (fX7_lay tu cn nn (nI k63)) ((fX7_peakOf (updN sn cn nn) (fX7_lay tu cn nn (nI k63)) re ot cn).2.1) ((fX7_peakOf (updN sn cn nn) (fX7_lay tu cn nn (nI k63)) re ot cn).2.2) cn).1)), (7, .int ((fX7_peakOf (updN sn cn nn) (fX7_lay tu cn nn (nI k63)) re ot cn).1)), (0, .ref h), (1, .int (nI cn)), (2, .int (nI nn)), (3, .int x3), (4, .int x4), (5, .int x5)]) hx hb dX7_best_133 hl (k := 8) rfl (nI_1 _) (by decide) rfl (fun ls hl => ?_)
                      refine lv_goto (tgt := 63) hx hb dX7_best_136 (by decide) ?_
                      exact ih63 (k63 + 1) x3 x4 x5 (fX7_lay tu cn nn (nI k63)) ((fX7_flankOf (updN sn cn nn) (fX7_lay tu cn nn (nI k63)) ((fX7_peakOf (updN sn cn nn) (fX7_lay tu cn nn (nI k63)) re ot cn).2.1) ((fX7_peakOf (updN sn cn nn) (fX7_lay tu cn nn (nI k63)) re ot cn).2.2) cn).2.1) ((fX7_flankOf (updN sn cn nn) (fX7_lay tu cn nn (nI k63)) ((fX7_peakOf (updN sn cn nn) (fX7_lay tu cn nn (nI k63)) re ot cn).2.1) ((fX7_peakOf (updN sn cn nn) (fX7_lay tu cn nn (nI k63)) re ot cn).2.2) cn).2.2) H locs ls (by omega) (by omega) hP hD hS (lv_sub hl [3, 4, 5, 6, 7, 8, 0] rfl) hF
                    · rw [if_neg c119] at hF
                      refine lv_iload hx hb dX7_best_122 (lv_at hl 1 rfl) ?_
                      refine lv_istore_n (lv' := [(3, .int ((fX7_peakOf (updN sn cn nn) (fX7_lay tu cn nn (nI k63)) re ot cn).1)), (8, .int ((fX7_flankOf (updN sn cn nn) (fX7_lay tu cn nn (nI k63)) ((fX7_peakOf (updN sn cn nn) (fX7_lay tu cn nn (nI k63)) re ot cn).2.1) ((fX7_peakOf (updN sn cn nn) (fX7_lay tu cn nn (nI k63)) re ot cn).2.2) cn).1)), (7, .int ((fX7_peakOf (updN sn cn nn) (fX7_lay tu cn nn (nI k63)) re ot cn).1)), (0, .ref h), (1, .int (nI cn)), (2, .int (nI nn)), (4, .int x4), (5, .int x5), (6, .int (nI k63))]) hx hb dX7_best_124 rfl hl (by decide) rfl (fun ls hl => ?_)
                      refine lv_iload hx hb dX7_best_125 (lv_at hl 1 rfl) ?_
                      refine lv_istore (lv' := [(4, .int ((fX7_flankOf (updN sn cn nn) (fX7_lay tu cn nn (nI k63)) ((fX7_peakOf (updN sn cn nn) (fX7_lay tu cn nn (nI k63)) re ot cn).2.1) ((fX7_peakOf (updN sn cn nn) (fX7_lay tu cn nn (nI k63)) re ot cn).2.2) cn).1)), (3, .int ((fX7_peakOf (updN sn cn nn) (fX7_lay tu cn nn (nI k63)) re ot cn).1)), (8, .int ((fX7_flankOf (updN sn cn nn) (fX7_lay tu cn nn (nI k63)) ((fX7_peakOf (updN sn cn nn) (fX7_lay tu cn nn (nI k63)) re ot cn).2.1) ((fX7_peakOf (updN sn cn nn) (fX7_lay tu cn nn (nI k63)) re ot cn).2.2) cn).1)), (7, .int ((fX7_peakOf (updN sn cn nn) (fX7_lay tu cn nn (nI k63)) re ot cn).1)), (0, .ref h), (1, .int (nI cn)), (2, .int (nI nn)), (5, .int x5), (6, .int (nI k63))]) hx hb dX7_best_127 hl (by decide) rfl (fun ls hl => ?_)
                      refine lv_iload hx hb dX7_best_129 (lv_at hl 8 rfl) ?_
                      refine lv_istore (lv' := [(5, .int (nI k63)), (4, .int ((fX7_flankOf (updN sn cn nn) (fX7_lay tu cn nn (nI k63)) ((fX7_peakOf (updN sn cn nn) (fX7_lay tu cn nn (nI k63)) re ot cn).2.1) ((fX7_peakOf (updN sn cn nn) (fX7_lay tu cn nn (nI k63)) re ot cn).2.2) cn).1)), (3, .int ((fX7_peakOf (updN sn cn nn) (fX7_lay tu cn nn (nI k63)) re ot cn).1)), (8, .int ((fX7_flankOf (updN sn cn nn) (fX7_lay tu cn nn (nI k63)) ((fX7_peakOf (updN sn cn nn) (fX7_lay tu cn nn (nI k63)) re ot cn).2.1) ((fX7_peakOf (updN sn cn nn) (fX7_lay tu cn nn (nI k63)) re ot cn).2.2) cn).1)), (7, .int ((fX7_peakOf (updN sn cn nn) (fX7_lay tu cn nn (nI k63)) re ot cn).1)), (0, .ref h), (1, .int (nI cn)), (2, .int (nI nn)), (6, .int (nI k63))]) hx hb dX7_best_131 hl (by decide) rfl (fun ls hl => ?_)
                      refine lv_iinc (v := nI (k63 + 1)) (lv' := [(6, .int (nI (k63 + 1))), (5, .int (nI k63)), (4, .int ((fX7_flankOf (updN sn cn nn) (fX7_lay tu cn nn (nI k63)) ((fX7_peakOf (updN sn cn nn) (fX7_lay tu cn nn (nI k63)) re ot cn).2.1) ((fX7_peakOf (updN sn cn nn) (fX7_lay tu cn nn (nI k63)) re ot cn).2.2) cn).1)), (3, .int ((fX7_peakOf (updN sn cn nn) (fX7_lay tu cn nn (nI k63)) re ot cn).1)), (8, .int ((fX7_flankOf (updN sn cn nn) (fX7_lay tu cn nn (nI k63)) ((fX7_peakOf (updN sn cn nn) (fX7_lay tu cn nn (nI k63)) re ot cn).2.1) ((fX7_peakOf (updN sn cn nn) (fX7_lay tu cn nn (nI k63)) re ot cn).2.2) cn).1)), (7, .int ((fX7_peakOf (updN sn cn nn) (fX7_lay tu cn nn (nI k63)) re ot cn).1)), (0, .ref h), (1, .int (nI cn)), (2, .int (nI nn))]) hx hb dX7_best_133 hl (k := 8) rfl (nI_1 _) (by decide) rfl (fun ls hl => ?_)
                      refine lv_goto (tgt := 63) hx hb dX7_best_136 (by decide) ?_
                      exact ih63 (k63 + 1) ((fX7_peakOf (updN sn cn nn) (fX7_lay tu cn nn (nI k63)) re ot cn).1) ((fX7_flankOf (updN sn cn nn) (fX7_lay tu cn nn (nI k63)) ((fX7_peakOf (updN sn cn nn) (fX7_lay tu cn nn (nI k63)) re ot cn).2.1) ((fX7_peakOf (updN sn cn nn) (fX7_lay tu cn nn (nI k63)) re ot cn).2.2) cn).1) (nI k63) (fX7_lay tu cn nn (nI k63)) ((fX7_flankOf (updN sn cn nn) (fX7_lay tu cn nn (nI k63)) ((fX7_peakOf (updN sn cn nn) (fX7_lay tu cn nn (nI k63)) re ot cn).2.1) ((fX7_peakOf (updN sn cn nn) (fX7_lay tu cn nn (nI k63)) re ot cn).2.2) cn).2.1) ((fX7_flankOf (updN sn cn nn) (fX7_lay tu cn nn (nI k63)) ((fX7_peakOf (updN sn cn nn) (fX7_lay tu cn nn (nI k63)) re ot cn).2.1) ((fX7_peakOf (updN sn cn nn) (fX7_lay tu cn nn (nI k63)) re ot cn).2.2) cn).2.2) H locs ls (by omega) (by omega) hP hD hS (lv_sub hl [6, 7, 8, 3, 2, 1, 0] rfl) hF
              · rw [if_neg c88] at hF
                refine lv_iload hx hb dX7_best_91 (lv_at hl 0 rfl) ?_
                refine lv_iload_n hx hb dX7_best_93 rfl (lv_at hl 4 rfl) ?_
                refine lv_icmp_gt (tgt := 133) hx hb dX7_best_94 (by decide) (fun c94 => ?_) (fun c94 => ?_)
                · rw [if_pos c94] at hF
                  refine lv_iinc (v := nI (k63 + 1)) (lv' := [(6, .int (nI (k63 + 1))), (7, .int ((fX7_peakOf (updN sn cn nn) (fX7_lay tu cn nn (nI k63)) re ot cn).1)), (0, .ref h), (1, .int (nI cn)), (2, .int (nI nn)), (3, .int x3), (4, .int x4), (5, .int x5)]) hx hb dX7_best_133 hl (k := 7) rfl (nI_1 _) (by decide) rfl (fun ls hl => ?_)
                  refine lv_goto (tgt := 63) hx hb dX7_best_136 (by decide) ?_
                  exact ih63 (k63 + 1) x3 x4 x5 (fX7_lay tu cn nn (nI k63)) ((fX7_peakOf (updN sn cn nn) (fX7_lay tu cn nn (nI k63)) re ot cn).2.1) ((fX7_peakOf (updN sn cn nn) (fX7_lay tu cn nn (nI k63)) re ot cn).2.2) H locs ls (by omega) (by omega) hP hD hS (lv_sub hl [2, 3, 4, 5, 6, 7, 0] rfl) hF
                · rw [if_neg c94] at hF
                  refine lv_aload_n hx hb dX7_best_97 rfl (lv_at hl 1 rfl) ?_
                  refine lv_iload_n hx hb dX7_best_98 rfl (lv_at hl 2 rfl) ?_
                  refine cw_i (va_runV (As := [.int (nI cn)]) (rest := []) ⟨hx, hb, hml, hown, hts⟩ (c_X7_flankOf l D cI H.size h a0 a1 a3 a5 a6 a8 a12 (updN sn cn nn) (fX7_lay tu cn nn (nI k63)) fn we rn per rea wn rw (bs + 1) ((fX7_peakOf (updN sn cn nn) (fX7_lay tu cn nn (nI k63)) re ot cn).2.1) ((fX7_peakOf (updN sn cn nn) (fX7_lay tu cn nn (nI k63)) re ot cn).2.2) cp ab be hh cn hsu (by omega)) (cwV 1 hts gX7_best_X7_flankOf rfl rfl rfl (by decide +kernel) ⟨(Nat.le_of_ble_eq_true rfl), (Nat.le_of_ble_eq_true rfl)⟩) (wr_preV hP hD hK rfl (q0 := 0) rfl) rfl rfl hl.1 rfl (lv_room (Nat.le_of_ble_eq_true rfl)) dX7_best_99 ⟨Nat.zero_le _, Nat.zero_le _⟩) hP hD hS hA [0, 1, 2, 3, 4, 5, 6, 7] rfl rfl (fun H locs hP hD hS => ?_)
                  have hP : va_P D vwCl [(h, .inr (5, [.ref a0, .ref a1, .int (nI fn), .ref a3, .int (nI rn), .ref a5, .ref a6, .int (nI wn), .ref a8, .int (nI (bs + 1)), .int ((fX7_flankOf (updN sn cn nn) (fX7_lay tu cn nn (nI k63)) ((fX7_peakOf (updN sn cn nn) (fX7_lay tu cn nn (nI k63)) re ot cn).2.1) ((fX7_peakOf (updN sn cn nn) (fX7_lay tu cn nn (nI k63)) re ot cn).2.2) cn).2.1), .int ((fX7_flankOf (updN sn cn nn) (fX7_lay tu cn nn (nI k63)) ((fX7_peakOf (updN sn cn nn) (fX7_lay tu cn nn (nI k63)) re ot cn).2.1) ((fX7_peakOf (updN sn cn nn) (fX7_lay tu cn nn (nI k63)) re ot cn).2.2) cn).2.2), .ref a12, .long ab, .long be, .long hh])), (a0, .inl (cI, 6, .inl (fun i => nI ((updN sn cn nn) i)))), (a1, .inl (cI, 96, .inl (fX7_lay tu cn nn (nI k63)))), (a3, .inl (cI, 24, .inl we)), (a5, .inl (cI, 4, .inl (fun i => nI (per i)))), (a6, .inl (cI, 4, .inl rea)), (a8, .inl (cI, 64, .inl rw)), (a12, .inl (cI, 16, .inl cp))] H := hP
                  have hD : va_D A [(h, .inr (5, [.ref a0, .ref a1, .int (nI fn), .ref a3, .int (nI rn), .ref a5, .ref a6, .int (nI wn), .ref a8, .int (nI (bs + 1)), .int ((fX7_flankOf (updN sn cn nn) (fX7_lay tu cn nn (nI k63)) ((fX7_peakOf (updN sn cn nn) (fX7_lay tu cn nn (nI k63)) re ot cn).2.1) ((fX7_peakOf (updN sn cn nn) (fX7_lay tu cn nn (nI k63)) re ot cn).2.2) cn).2.1), .int ((fX7_flankOf (updN sn cn nn) (fX7_lay tu cn nn (nI k63)) ((fX7_peakOf (updN sn cn nn) (fX7_lay tu cn nn (nI k63)) re ot cn).2.1) ((fX7_peakOf (updN sn cn nn) (fX7_lay tu cn nn (nI k63)) re ot cn).2.2) cn).2.2), .ref a12, .long ab, .long be, .long hh])), (a0, .inl (cI, 6, .inl (fun i => nI ((updN sn cn nn) i)))), (a1, .inl (cI, 96, .inl (fX7_lay tu cn nn (nI k63)))), (a3, .inl (cI, 24, .inl we)), (a5, .inl (cI, 4, .inl (fun i => nI (per i)))), (a6, .inl (cI, 4, .inl rea)), (a8, .inl (cI, 64, .inl rw)), (a12, .inl (cI, 16, .inl cp))] := hD
                  refine lv_istore (lv' := [(8, .int ((fX7_flankOf (updN sn cn nn) (fX7_lay tu cn nn (nI k63)) ((fX7_peakOf (updN sn cn nn) (fX7_lay tu cn nn (nI k63)) re ot cn).2.1) ((fX7_peakOf (updN sn cn nn) (fX7_lay tu cn nn (nI k63)) re ot cn).2.2) cn).1)), (7, .int ((fX7_peakOf (updN sn cn nn) (fX7_lay tu cn nn (nI k63)) re ot cn).1)), (0, .ref h), (1, .int (nI cn)), (2, .int (nI nn)), (3, .int x3), (4, .int x4), (5, .int x5), (6, .int (nI k63))]) hx hb dX7_best_102 hl (by decide) rfl (fun ls hl => ?_)
                  refine lv_iload_n hx hb dX7_best_104 rfl (lv_at hl 5 rfl) ?_
                  refine lv_iconst (v := (-1)) hx hb dX7_best_105 (by decide) ?_
                  refine lv_icmp_eq (tgt := 122) hx hb dX7_best_106 (by decide) (fun c106 => ?_) (fun c106 => ?_)
                  · rw [if_pos c106] at hF
                    refine lv_iload hx hb dX7_best_122 (lv_at hl 1 rfl) ?_
                    refine lv_istore_n (lv' := [(3, .int ((fX7_peakOf (updN sn cn nn) (fX7_lay tu cn nn (nI k63)) re ot cn).1)), (8, .int ((fX7_flankOf (updN sn cn nn) (fX7_lay tu cn nn (nI k63)) ((fX7_peakOf (updN sn cn nn) (fX7_lay tu cn nn (nI k63)) re ot cn).2.1) ((fX7_peakOf (updN sn cn nn) (fX7_lay tu cn nn (nI k63)) re ot cn).2.2) cn).1)), (7, .int ((fX7_peakOf (updN sn cn nn) (fX7_lay tu cn nn (nI k63)) re ot cn).1)), (0, .ref h), (1, .int (nI cn)), (2, .int (nI nn)), (4, .int x4), (5, .int x5), (6, .int (nI k63))]) hx hb dX7_best_124 rfl hl (by decide) rfl (fun ls hl => ?_)
                    refine lv_iload hx hb dX7_best_125 (lv_at hl 1 rfl) ?_
                    refine lv_istore (lv' := [(4, .int ((fX7_flankOf (updN sn cn nn) (fX7_lay tu cn nn (nI k63)) ((fX7_peakOf (updN sn cn nn) (fX7_lay tu cn nn (nI k63)) re ot cn).2.1) ((fX7_peakOf (updN sn cn nn) (fX7_lay tu cn nn (nI k63)) re ot cn).2.2) cn).1)), (3, .int ((fX7_peakOf (updN sn cn nn) (fX7_lay tu cn nn (nI k63)) re ot cn).1)), (8, .int ((fX7_flankOf (updN sn cn nn) (fX7_lay tu cn nn (nI k63)) ((fX7_peakOf (updN sn cn nn) (fX7_lay tu cn nn (nI k63)) re ot cn).2.1) ((fX7_peakOf (updN sn cn nn) (fX7_lay tu cn nn (nI k63)) re ot cn).2.2) cn).1)), (7, .int ((fX7_peakOf (updN sn cn nn) (fX7_lay tu cn nn (nI k63)) re ot cn).1)), (0, .ref h), (1, .int (nI cn)), (2, .int (nI nn)), (5, .int x5), (6, .int (nI k63))]) hx hb dX7_best_127 hl (by decide) rfl (fun ls hl => ?_)
                    refine lv_iload hx hb dX7_best_129 (lv_at hl 8 rfl) ?_
                    refine lv_istore (lv' := [(5, .int (nI k63)), (4, .int ((fX7_flankOf (updN sn cn nn) (fX7_lay tu cn nn (nI k63)) ((fX7_peakOf (updN sn cn nn) (fX7_lay tu cn nn (nI k63)) re ot cn).2.1) ((fX7_peakOf (updN sn cn nn) (fX7_lay tu cn nn (nI k63)) re ot cn).2.2) cn).1)), (3, .int ((fX7_peakOf (updN sn cn nn) (fX7_lay tu cn nn (nI k63)) re ot cn).1)), (8, .int ((fX7_flankOf (updN sn cn nn) (fX7_lay tu cn nn (nI k63)) ((fX7_peakOf (updN sn cn nn) (fX7_lay tu cn nn (nI k63)) re ot cn).2.1) ((fX7_peakOf (updN sn cn nn) (fX7_lay tu cn nn (nI k63)) re ot cn).2.2) cn).1)), (7, .int ((fX7_peakOf (updN sn cn nn) (fX7_lay tu cn nn (nI k63)) re ot cn).1)), (0, .ref h), (1, .int (nI cn)), (2, .int (nI nn)), (6, .int (nI k63))]) hx hb dX7_best_131 hl (by decide) rfl (fun ls hl => ?_)
                    refine lv_iinc (v := nI (k63 + 1)) (lv' := [(6, .int (nI (k63 + 1))), (5, .int (nI k63)), (4, .int ((fX7_flankOf (updN sn cn nn) (fX7_lay tu cn nn (nI k63)) ((fX7_peakOf (updN sn cn nn) (fX7_lay tu cn nn (nI k63)) re ot cn).2.1) ((fX7_peakOf (updN sn cn nn) (fX7_lay tu cn nn (nI k63)) re ot cn).2.2) cn).1)), (3, .int ((fX7_peakOf (updN sn cn nn) (fX7_lay tu cn nn (nI k63)) re ot cn).1)), (8, .int ((fX7_flankOf (updN sn cn nn) (fX7_lay tu cn nn (nI k63)) ((fX7_peakOf (updN sn cn nn) (fX7_lay tu cn nn (nI k63)) re ot cn).2.1) ((fX7_peakOf (updN sn cn nn) (fX7_lay tu cn nn (nI k63)) re ot cn).2.2) cn).1)), (7, .int ((fX7_peakOf (updN sn cn nn) (fX7_lay tu cn nn (nI k63)) re ot cn).1)), (0, .ref h), (1, .int (nI cn)), (2, .int (nI nn))]) hx hb dX7_best_133 hl (k := 8) rfl (nI_1 _) (by decide) rfl (fun ls hl => ?_)
                    refine lv_goto (tgt := 63) hx hb dX7_best_136 (by decide) ?_
                    exact ih63 (k63 + 1) ((fX7_peakOf (updN sn cn nn) (fX7_lay tu cn nn (nI k63)) re ot cn).1) ((fX7_flankOf (updN sn cn nn) (fX7_lay tu cn nn (nI k63)) ((fX7_peakOf (updN sn cn nn) (fX7_lay tu cn nn (nI k63)) re ot cn).2.1) ((fX7_peakOf (updN sn cn nn) (fX7_lay tu cn nn (nI k63)) re ot cn).2.2) cn).1) (nI k63) (fX7_lay tu cn nn (nI k63)) ((fX7_flankOf (updN sn cn nn) (fX7_lay tu cn nn (nI k63)) ((fX7_peakOf (updN sn cn nn) (fX7_lay tu cn nn (nI k63)) re ot cn).2.1) ((fX7_peakOf (updN sn cn nn) (fX7_lay tu cn nn (nI k63)) re ot cn).2.2) cn).2.1) ((fX7_flankOf (updN sn cn nn) (fX7_lay tu cn nn (nI k63)) ((fX7_peakOf (updN sn cn nn) (fX7_lay tu cn nn (nI k63)) re ot cn).2.1) ((fX7_peakOf (updN sn cn nn) (fX7_lay tu cn nn (nI k63)) re ot cn).2.2) cn).2.2) H locs ls (by omega) (by omega) hP hD hS (lv_sub hl [6, 7, 8, 3, 2, 1, 0] rfl) hF
                  · rw [if_neg c106] at hF
                    refine lv_iload hx hb dX7_best_109 (lv_at hl 1 rfl) ?_
                    refine lv_iload_n hx hb dX7_best_111 rfl (lv_at hl 5 rfl) ?_
                    refine lv_icmp_lt (tgt := 122) hx hb dX7_best_112 (by decide) (fun c112 => ?_) (fun c112 => ?_)
                    · rw [if_pos c112] at hF
                      refine lv_iload hx hb dX7_best_122 (lv_at hl 1 rfl) ?_
                      refine lv_istore_n (lv' := [(3, .int ((fX7_peakOf (updN sn cn nn) (fX7_lay tu cn nn (nI k63)) re ot cn).1)), (8, .int ((fX7_flankOf (updN sn cn nn) (fX7_lay tu cn nn (nI k63)) ((fX7_peakOf (updN sn cn nn) (fX7_lay tu cn nn (nI k63)) re ot cn).2.1) ((fX7_peakOf (updN sn cn nn) (fX7_lay tu cn nn (nI k63)) re ot cn).2.2) cn).1)), (7, .int ((fX7_peakOf (updN sn cn nn) (fX7_lay tu cn nn (nI k63)) re ot cn).1)), (0, .ref h), (1, .int (nI cn)), (2, .int (nI nn)), (4, .int x4), (5, .int x5), (6, .int (nI k63))]) hx hb dX7_best_124 rfl hl (by decide) rfl (fun ls hl => ?_)
                      refine lv_iload hx hb dX7_best_125 (lv_at hl 1 rfl) ?_
                      refine lv_istore (lv' := [(4, .int ((fX7_flankOf (updN sn cn nn) (fX7_lay tu cn nn (nI k63)) ((fX7_peakOf (updN sn cn nn) (fX7_lay tu cn nn (nI k63)) re ot cn).2.1) ((fX7_peakOf (updN sn cn nn) (fX7_lay tu cn nn (nI k63)) re ot cn).2.2) cn).1)), (3, .int ((fX7_peakOf (updN sn cn nn) (fX7_lay tu cn nn (nI k63)) re ot cn).1)), (8, .int ((fX7_flankOf (updN sn cn nn) (fX7_lay tu cn nn (nI k63)) ((fX7_peakOf (updN sn cn nn) (fX7_lay tu cn nn (nI k63)) re ot cn).2.1) ((fX7_peakOf (updN sn cn nn) (fX7_lay tu cn nn (nI k63)) re ot cn).2.2) cn).1)), (7, .int ((fX7_peakOf (updN sn cn nn) (fX7_lay tu cn nn (nI k63)) re ot cn).1)), (0, .ref h), (1, .int (nI cn)), (2, .int (nI nn)), (5, .int x5), (6, .int (nI k63))]) hx hb dX7_best_127 hl (by decide) rfl (fun ls hl => ?_)
                      refine lv_iload hx hb dX7_best_129 (lv_at hl 8 rfl) ?_
                      refine lv_istore (lv' := [(5, .int (nI k63)), (4, .int ((fX7_flankOf (updN sn cn nn) (fX7_lay tu cn nn (nI k63)) ((fX7_peakOf (updN sn cn nn) (fX7_lay tu cn nn (nI k63)) re ot cn).2.1) ((fX7_peakOf (updN sn cn nn) (fX7_lay tu cn nn (nI k63)) re ot cn).2.2) cn).1)), (3, .int ((fX7_peakOf (updN sn cn nn) (fX7_lay tu cn nn (nI k63)) re ot cn).1)), (8, .int ((fX7_flankOf (updN sn cn nn) (fX7_lay tu cn nn (nI k63)) ((fX7_peakOf (updN sn cn nn) (fX7_lay tu cn nn (nI k63)) re ot cn).2.1) ((fX7_peakOf (updN sn cn nn) (fX7_lay tu cn nn (nI k63)) re ot cn).2.2) cn).1)), (7, .int ((fX7_peakOf (updN sn cn nn) (fX7_lay tu cn nn (nI k63)) re ot cn).1)), (0, .ref h), (1, .int (nI cn)), (2, .int (nI nn)), (6, .int (nI k63))]) hx hb dX7_best_131 hl (by decide) rfl (fun ls hl => ?_)
                      refine lv_iinc (v := nI (k63 + 1)) (lv' := [(6, .int (nI (k63 + 1))), (5, .int (nI k63)), (4, .int ((fX7_flankOf (updN sn cn nn) (fX7_lay tu cn nn (nI k63)) ((fX7_peakOf (updN sn cn nn) (fX7_lay tu cn nn (nI k63)) re ot cn).2.1) ((fX7_peakOf (updN sn cn nn) (fX7_lay tu cn nn (nI k63)) re ot cn).2.2) cn).1)), (3, .int ((fX7_peakOf (updN sn cn nn) (fX7_lay tu cn nn (nI k63)) re ot cn).1)), (8, .int ((fX7_flankOf (updN sn cn nn) (fX7_lay tu cn nn (nI k63)) ((fX7_peakOf (updN sn cn nn) (fX7_lay tu cn nn (nI k63)) re ot cn).2.1) ((fX7_peakOf (updN sn cn nn) (fX7_lay tu cn nn (nI k63)) re ot cn).2.2) cn).1)), (7, .int ((fX7_peakOf (updN sn cn nn) (fX7_lay tu cn nn (nI k63)) re ot cn).1)), (0, .ref h), (1, .int (nI cn)), (2, .int (nI nn))]) hx hb dX7_best_133 hl (k := 8) rfl (nI_1 _) (by decide) rfl (fun ls hl => ?_)
                      refine lv_goto (tgt := 63) hx hb dX7_best_136 (by decide) ?_
                      exact ih63 (k63 + 1) ((fX7_peakOf (updN sn cn nn) (fX7_lay tu cn nn (nI k63)) re ot cn).1) ((fX7_flankOf (updN sn cn nn) (fX7_lay tu cn nn (nI k63)) ((fX7_peakOf (updN sn cn nn) (fX7_lay tu cn nn (nI k63)) re ot cn).2.1) ((fX7_peakOf (updN sn cn nn) (fX7_lay tu cn nn (nI k63)) re ot cn).2.2) cn).1) (nI k63) (fX7_lay tu cn nn (nI k63)) ((fX7_flankOf (updN sn cn nn) (fX7_lay tu cn nn (nI k63)) ((fX7_peakOf (updN sn cn nn) (fX7_lay tu cn nn (nI k63)) re ot cn).2.1) ((fX7_peakOf (updN sn cn nn) (fX7_lay tu cn nn (nI k63)) re ot cn).2.2) cn).2.1) ((fX7_flankOf (updN sn cn nn) (fX7_lay tu cn nn (nI k63)) ((fX7_peakOf (updN sn cn nn) (fX7_lay tu cn nn (nI k63)) re ot cn).2.1) ((fX7_peakOf (updN sn cn nn) (fX7_lay tu cn nn (nI k63)) re ot cn).2.2) cn).2.2) H locs ls (by omega) (by omega) hP hD hS (lv_sub hl [6, 7, 8, 3, 2, 1, 0] rfl) hF
                    · rw [if_neg c112] at hF
                      refine lv_iload hx hb dX7_best_115 (lv_at hl 0 rfl) ?_
                      refine lv_iload hx hb dX7_best_117 (lv_at hl 6 rfl) ?_
                      refine lv_icmp_ge (tgt := 133) hx hb dX7_best_119 (by decide) (fun c119 => ?_) (fun c119 => ?_)
                      · rw [if_pos c119] at hF
                        refine lv_iinc (v := nI (k63 + 1)) (lv' := [(6, .int (nI (k63 + 1))), (8, .int ((fX7_flankOf (updN sn cn nn) (fX7_lay tu cn nn (nI k63)) ((fX7_peakOf (updN sn cn nn) (fX7_lay tu cn nn (nI k63)) re ot cn).2.1) ((fX7_peakOf (updN sn cn nn) (fX7_lay tu cn nn (nI k63)) re ot cn).2.2) cn).1)), (7, .int ((fX7_peakOf (updN sn cn nn) (fX7_lay tu cn nn (nI k63)) re ot cn).1)), (0, .ref h), (1, .int (nI cn)), (2, .int (nI nn)), (3, .int x3), (4, .int x4), (5, .int x5)]) hx hb dX7_best_133 hl (k := 8) rfl (nI_1 _) (by decide) rfl (fun ls hl => ?_)
                        refine lv_goto (tgt := 63) hx hb dX7_best_136 (by decide) ?_
                        exact ih63 (k63 + 1) x3 x4 x5 (fX7_lay tu cn nn (nI k63)) ((fX7_flankOf (updN sn cn nn) (fX7_lay tu cn nn (nI k63)) ((fX7_peakOf (updN sn cn nn) (fX7_lay tu cn nn (nI k63)) re ot cn).2.1) ((fX7_peakOf (updN sn cn nn) (fX7_lay tu cn nn (nI k63)) re ot cn).2.2) cn).2.1) ((fX7_flankOf (updN sn cn nn) (fX7_lay tu cn nn (nI k63)) ((fX7_peakOf (updN sn cn nn) (fX7_lay tu cn nn (nI k63)) re ot cn).2.1) ((fX7_peakOf (updN sn cn nn) (fX7_lay tu cn nn (nI k63)) re ot cn).2.2) cn).2.2) H locs ls (by omega) (by omega) hP hD hS (lv_sub hl [3, 4, 5, 6, 7, 8, 0] rfl) hF
                      · rw [if_neg c119] at hF
                        refine lv_iload hx hb dX7_best_122 (lv_at hl 1 rfl) ?_
                        refine lv_istore_n (lv' := [(3, .int ((fX7_peakOf (updN sn cn nn) (fX7_lay tu cn nn (nI k63)) re ot cn).1)), (8, .int ((fX7_flankOf (updN sn cn nn) (fX7_lay tu cn nn (nI k63)) ((fX7_peakOf (updN sn cn nn) (fX7_lay tu cn nn (nI k63)) re ot cn).2.1) ((fX7_peakOf (updN sn cn nn) (fX7_lay tu cn nn (nI k63)) re ot cn).2.2) cn).1)), (7, .int ((fX7_peakOf (updN sn cn nn) (fX7_lay tu cn nn (nI k63)) re ot cn).1)), (0, .ref h), (1, .int (nI cn)), (2, .int (nI nn)), (4, .int x4), (5, .int x5), (6, .int (nI k63))]) hx hb dX7_best_124 rfl hl (by decide) rfl (fun ls hl => ?_)
                        refine lv_iload hx hb dX7_best_125 (lv_at hl 1 rfl) ?_
                        refine lv_istore (lv' := [(4, .int ((fX7_flankOf (updN sn cn nn) (fX7_lay tu cn nn (nI k63)) ((fX7_peakOf (updN sn cn nn) (fX7_lay tu cn nn (nI k63)) re ot cn).2.1) ((fX7_peakOf (updN sn cn nn) (fX7_lay tu cn nn (nI k63)) re ot cn).2.2) cn).1)), (3, .int ((fX7_peakOf (updN sn cn nn) (fX7_lay tu cn nn (nI k63)) re ot cn).1)), (8, .int ((fX7_flankOf (updN sn cn nn) (fX7_lay tu cn nn (nI k63)) ((fX7_peakOf (updN sn cn nn) (fX7_lay tu cn nn (nI k63)) re ot cn).2.1) ((fX7_peakOf (updN sn cn nn) (fX7_lay tu cn nn (nI k63)) re ot cn).2.2) cn).1)), (7, .int ((fX7_peakOf (updN sn cn nn) (fX7_lay tu cn nn (nI k63)) re ot cn).1)), (0, .ref h), (1, .int (nI cn)), (2, .int (nI nn)), (5, .int x5), (6, .int (nI k63))]) hx hb dX7_best_127 hl (by decide) rfl (fun ls hl => ?_)
                        refine lv_iload hx hb dX7_best_129 (lv_at hl 8 rfl) ?_
                        refine lv_istore (lv' := [(5, .int (nI k63)), (4, .int ((fX7_flankOf (updN sn cn nn) (fX7_lay tu cn nn (nI k63)) ((fX7_peakOf (updN sn cn nn) (fX7_lay tu cn nn (nI k63)) re ot cn).2.1) ((fX7_peakOf (updN sn cn nn) (fX7_lay tu cn nn (nI k63)) re ot cn).2.2) cn).1)), (3, .int ((fX7_peakOf (updN sn cn nn) (fX7_lay tu cn nn (nI k63)) re ot cn).1)), (8, .int ((fX7_flankOf (updN sn cn nn) (fX7_lay tu cn nn (nI k63)) ((fX7_peakOf (updN sn cn nn) (fX7_lay tu cn nn (nI k63)) re ot cn).2.1) ((fX7_peakOf (updN sn cn nn) (fX7_lay tu cn nn (nI k63)) re ot cn).2.2) cn).1)), (7, .int ((fX7_peakOf (updN sn cn nn) (fX7_lay tu cn nn (nI k63)) re ot cn).1)), (0, .ref h), (1, .int (nI cn)), (2, .int (nI nn)), (6, .int (nI k63))]) hx hb dX7_best_131 hl (by decide) rfl (fun ls hl => ?_)
                        refine lv_iinc (v := nI (k63 + 1)) (lv' := [(6, .int (nI (k63 + 1))), (5, .int (nI k63)), (4, .int ((fX7_flankOf (updN sn cn nn) (fX7_lay tu cn nn (nI k63)) ((fX7_peakOf (updN sn cn nn) (fX7_lay tu cn nn (nI k63)) re ot cn).2.1) ((fX7_peakOf (updN sn cn nn) (fX7_lay tu cn nn (nI k63)) re ot cn).2.2) cn).1)), (3, .int ((fX7_peakOf (updN sn cn nn) (fX7_lay tu cn nn (nI k63)) re ot cn).1)), (8, .int ((fX7_flankOf (updN sn cn nn) (fX7_lay tu cn nn (nI k63)) ((fX7_peakOf (updN sn cn nn) (fX7_lay tu cn nn (nI k63)) re ot cn).2.1) ((fX7_peakOf (updN sn cn nn) (fX7_lay tu cn nn (nI k63)) re ot cn).2.2) cn).1)), (7, .int ((fX7_peakOf (updN sn cn nn) (fX7_lay tu cn nn (nI k63)) re ot cn).1)), (0, .ref h), (1, .int (nI cn)), (2, .int (nI nn))]) hx hb dX7_best_133 hl (k := 8) rfl (nI_1 _) (by decide) rfl (fun ls hl => ?_)
                        refine lv_goto (tgt := 63) hx hb dX7_best_136 (by decide) ?_
                        exact ih63 (k63 + 1) ((fX7_peakOf (updN sn cn nn) (fX7_lay tu cn nn (nI k63)) re ot cn).1) ((fX7_flankOf (updN sn cn nn) (fX7_lay tu cn nn (nI k63)) ((fX7_peakOf (updN sn cn nn) (fX7_lay tu cn nn (nI k63)) re ot cn).2.1) ((fX7_peakOf (updN sn cn nn) (fX7_lay tu cn nn (nI k63)) re ot cn).2.2) cn).1) (nI k63) (fX7_lay tu cn nn (nI k63)) ((fX7_flankOf (updN sn cn nn) (fX7_lay tu cn nn (nI k63)) ((fX7_peakOf (updN sn cn nn) (fX7_lay tu cn nn (nI k63)) re ot cn).2.1) ((fX7_peakOf (updN sn cn nn) (fX7_lay tu cn nn (nI k63)) re ot cn).2.2) cn).2.1) ((fX7_flankOf (updN sn cn nn) (fX7_lay tu cn nn (nI k63)) ((fX7_peakOf (updN sn cn nn) (fX7_lay tu cn nn (nI k63)) re ot cn).2.1) ((fX7_peakOf (updN sn cn nn) (fX7_lay tu cn nn (nI k63)) re ot cn).2.2) cn).2.2) H locs ls (by omega) (by omega) hP hD hS (lv_sub hl [6, 7, 8, 3, 2, 1, 0] rfl) hF
        exact lp63 ((2 ^ nn) - 0) 0 (-1) 0 0 tu re ot H _ ls rfl (by have := Nat.zero_le (2 ^ nn); omega) hP hD hS (lv_sub hl [4, 5, 6, 3, 2, 1, 0] rfl) hF
      · rw [if_pos c29] at hF
        refine lv_bipush (v := (-104)) hx hb dX7_best_32 (by decide) ?_
        subst hF
        subst hQ
        exact W.iret (v := (-104)) hx hb hr (fun u9 ht hW => ⟨⟨_, (), rfl, rfl, by rw [← ht] at hP; exact hP⟩, hS.F ht⟩) hS.2.2 dX7_best_34
    · rw [if_pos c17] at hF
      refine lv_bipush (v := (-102)) hx hb dX7_best_20 (by decide) ?_
      subst hF
      subst hQ
      exact W.iret (v := (-102)) hx hb hr (fun u9 ht hW => ⟨⟨_, (), rfl, rfl, by rw [← ht] at hP; exact hP⟩, hS.F ht⟩) hS.2.2 dX7_best_22
  · rw [if_pos c4] at hF
    refine lv_bipush (v := (-101)) hx hb dX7_best_7 (by decide) ?_
    subst hF
    subst hQ
    exact W.iret (v := (-101)) hx hb hr (fun u9 ht hW => ⟨⟨_, (), rfl, rfl, by rw [← ht] at hP; exact hP⟩, hS.F ht⟩) hS.2.2 dX7_best_9
