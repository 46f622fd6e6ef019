theorem nb_of {v : Int32} (h : v = 0 ∨ v = 1) : narrow .boolean (.int v) = .int v := by
  rcases h with h | h <;> subst h <;> rfl
def updN (f : Nat → Nat) (k x : Nat) : Nat → Nat := fun j => if j = k then x else f j
theorem updN_row (f : Nat → Nat) (k x : Nat) : upd (fun i => nI (f i)) k (nI x) = fun i => nI (updN f k x i) := by
  funext j
  unfold upd updN
  split <;> rfl
theorem updN_rowv {f : Nat → Nat} {k x : Nat} {v : Int32} (h : v = nI x) : upd (fun i => nI (f i)) k v = fun i => nI (updN f k x i) := by rw [h, updN_row]
def fX6_within (v : Int32) (lo : Int32) (hi : Int32) : Int32 := (if v < lo then 0 else (if hi < v then 0 else 1))
abbrev rmX6_within : Room := { frames := 0, cells := 0, slots := 0, locals := 0 }
set_option maxHeartbeats 4000000 in
set_option maxRecDepth 100000 in
theorem c_X6_within (l : Launch) (D : va_G) (cI : ClassId) (v : Int32) (lo : Int32) (hi : Int32)  : Met l yX6_within wsX6_within rmX6_within (va_Pc [.int v, .int lo, .int hi] (roP D [(cI, .int)] [])) (vp_Si (fun r9 => r9 = fX6_within v lo hi)) 0 0 (fun _ => False) := by
  generalize hF : fX6_within v lo hi = T
  refine Met.ofW (cc := cX6_within) (maxL := 3) (ret := (some .boolean)) (by decide) rfl ?_
  intro p e s m args below meth c s₁ B hml hv
  obtain ⟨rfl, hP, hK⟩ := hv
  have hx := B.exec
  have hb := B.bytes
  have hr := B.returns
  have hts := atoms_spec (ws := wsX6_within) B.pre
  have hown : s.vm.findClass RX6 = some m.cls := findClass_of_methodNamed B.named
  have hlocks := B.notSynchronized
  have hl := lv_entry ([.int v, .int lo, .int hi]) (n := 3) (Nat.le_of_ble_eq_true rfl)
  rw [lg_entry_eq]
  generalize (lg_sl ([.int v, .int lo, .int hi]) ++ List.replicate (3 - (lg_sl ([.int v, .int lo, .int hi])).length) Slot.unset).toArray = ls at hl ⊢
  refine w_Q (fun Q hQ => ?_)
  have hl : lv_has ls 3 [(0, .int v), (1, .int lo), (2, .int hi)] := hl
  rw [fX6_within] at hF
  refine lv_iload_n hx hb dX6_within_0 rfl (lv_at hl 0 rfl) ?_
  refine lv_iload_n hx hb dX6_within_1 rfl (lv_at hl 1 rfl) ?_
  refine lv_icmp_lt (tgt := 14) hx hb dX6_within_2 (by decide) (fun c2 => ?_) (fun c2 => ?_)
  · rw [if_pos c2] at hF
    refine lv_iconst (v := 0) hx hb dX6_within_14 (by decide) ?_
    subst hQ
    exact W.zret (v := 0) (ty := .boolean) hx hb hr rfl (fun u9 ht hW => ⟨_, rfl, hF, ht⟩) (fun q hq => by cases hq) dX6_within_15
  · rw [if_neg c2] at hF
    refine lv_iload_n hx hb dX6_within_5 rfl (lv_at hl 0 rfl) ?_
    refine lv_iload_n hx hb dX6_within_6 rfl (lv_at hl 2 rfl) ?_
    refine lv_icmp_gt (tgt := 14) hx hb dX6_within_7 (by decide) (fun c7 => ?_) (fun c7 => ?_)
    · rw [if_pos c7] at hF
      refine lv_iconst (v := 0) hx hb dX6_within_14 (by decide) ?_
      subst hQ
      exact W.zret (v := 0) (ty := .boolean) hx hb hr rfl (fun u9 ht hW => ⟨_, rfl, hF, ht⟩) (fun q hq => by cases hq) dX6_within_15
    · rw [if_neg c7] at hF
      refine lv_iconst (v := 1) hx hb dX6_within_10 (by decide) ?_
      refine lv_goto (tgt := 15) hx hb dX6_within_11 (by decide) ?_
      subst hQ
      exact W.zret (v := 1) (ty := .boolean) hx hb hr rfl (fun u9 ht hW => ⟨_, rfl, hF, ht⟩) (fun q hq => by cases hq) dX6_within_15
theorem bX6_within (v : Int32) (lo : Int32) (hi : Int32) : fX6_within v lo hi = 0 ∨ fX6_within v lo hi = 1 := by
  unfold fX6_within
  repeat' split
  all_goals first | exact Or.inl rfl | exact Or.inr rfl
def fX6_isSign (v : Int32) : Int32 := fX6_within v 0 5
abbrev rmX6_isSign : Room := { frames := 1, cells := 0, slots := 0, locals := 22 }
set_option maxHeartbeats 4000000 in
set_option maxRecDepth 100000 in
theorem c_X6_isSign (l : Launch) (D : va_G) (cI : ClassId) (v : Int32)  : Met l yX6_isSign wsX6_isSign rmX6_isSign (va_Pc [.int v] (roP D [(cI, .int)] [])) (vp_Si (fun r9 => r9 = fX6_isSign v)) 0 0 (fun _ => False) := by
  generalize hF : fX6_isSign v = T
  refine Met.ofW (cc := cX6_isSign) (maxL := 1) (ret := (some .boolean)) (by decide) rfl ?_
  intro p e s m args below meth c s₁ B hml hv
  obtain ⟨rfl, hP, hK⟩ := hv
  have hx := B.exec
  have hb := B.bytes
  have hr := B.returns
  have hts := atoms_spec (ws := wsX6_isSign) B.pre
  have hown : s.vm.findClass RX6 = some m.cls := findClass_of_methodNamed B.named
  have hlocks := B.notSynchronized
  have hl := lv_entry ([.int v]) (n := 1) (Nat.le_of_ble_eq_true rfl)
  rw [lg_entry_eq]
  generalize (lg_sl ([.int v]) ++ List.replicate (1 - (lg_sl ([.int v])).length) Slot.unset).toArray = ls at hl ⊢
  refine w_Q (fun Q hQ => ?_)
  have hl : lv_has ls 1 [(0, .int v)] := hl
  rw [fX6_isSign] at hF
  refine lv_iload_n hx hb dX6_isSign_0 rfl (lv_at hl 0 rfl) ?_
  refine lv_iconst (v := 0) hx hb dX6_isSign_1 (by decide) ?_
  refine lv_iconst (v := 5) hx hb dX6_isSign_2 (by decide) ?_
  refine cs_i (va_runS (As := [.int v, .int 0, .int 5]) (rest := []) ⟨hx, hb, hml, hown, hts⟩ (c_X6_within l D cI v 0 5 ) (va_cwS 3 hts gX6_isSign_X6_within rfl rfl rfl (by decide +kernel) ⟨(Nat.le_of_ble_eq_true rfl), (Nat.le_of_ble_eq_true rfl)⟩) (ro_pre hP hK) rfl rfl hl.1 rfl (lv_room (Nat.le_of_ble_eq_true rfl)) dX6_isSign_3 ⟨Nat.zero_le _, Nat.zero_le _⟩) ?_
  subst hQ
  exact W.zret (v := fX6_within v 0 5) (ty := .boolean) hx hb hr (nb_of (bX6_within ..)) (fun u9 ht hW => ⟨_, rfl, hF, ht⟩) (fun q hq => by cases hq) dX6_isSign_6
theorem bX6_isSign (v : Int32) : fX6_isSign v = 0 ∨ fX6_isSign v = 1 := bX6_within ..
def fX6_isPart (v : Int32) : Int32 := fX6_within v 0 1
abbrev rmX6_isPart : Room := { frames := 1, cells := 0, slots := 0, locals := 22 }
set_option maxHeartbeats 4000000 in
set_option maxRecDepth 100000 in
theorem c_X6_isPart (l : Launch) (D : va_G) (cI : ClassId) (v : Int32)  : Met l yX6_isPart wsX6_isPart rmX6_isPart (va_Pc [.int v] (roP D [(cI, .int)] [])) (vp_Si (fun r9 => r9 = fX6_isPart v)) 0 0 (fun _ => False) := by
  generalize hF : fX6_isPart v = T
  refine Met.ofW (cc := cX6_isPart) (maxL := 1) (ret := (some .boolean)) (by decide) rfl ?_
  intro p e s m args below meth c s₁ B hml hv
  obtain ⟨rfl, hP, hK⟩ := hv
  have hx := B.exec
  have hb := B.bytes
  have hr := B.returns
  have hts := atoms_spec (ws := wsX6_isPart) B.pre
  have hown : s.vm.findClass RX6 = some m.cls := findClass_of_methodNamed B.named
  have hlocks := B.notSynchronized
  have hl := lv_entry ([.int v]) (n := 1) (Nat.le_of_ble_eq_true rfl)
  rw [lg_entry_eq]
  generalize (lg_sl ([.int v]) ++ List.replicate (1 - (lg_sl ([.int v])).length) Slot.unset).toArray = ls at hl ⊢
  refine w_Q (fun Q hQ => ?_)
  have hl : lv_has ls 1 [(0, .int v)] := hl
  rw [fX6_isPart] at hF
  refine lv_iload_n hx hb dX6_isPart_0 rfl (lv_at hl 0 rfl) ?_
  refine lv_iconst (v := 0) hx hb dX6_isPart_1 (by decide) ?_
  refine lv_iconst (v := 1) hx hb dX6_isPart_2 (by decide) ?_
  refine cs_i (va_runS (As := [.int v, .int 0, .int 1]) (rest := []) ⟨hx, hb, hml, hown, hts⟩ (c_X6_within l D cI v 0 1 ) (va_cwS 3 hts gX6_isPart_X6_within rfl rfl rfl (by decide +kernel) ⟨(Nat.le_of_ble_eq_true rfl), (Nat.le_of_ble_eq_true rfl)⟩) (ro_pre hP hK) rfl rfl hl.1 rfl (lv_room (Nat.le_of_ble_eq_true rfl)) dX6_isPart_3 ⟨Nat.zero_le _, Nat.zero_le _⟩) ?_
  subst hQ
  exact W.zret (v := fX6_within v 0 1) (ty := .boolean) hx hb hr (nb_of (bX6_within ..)) (fun u9 ht hW => ⟨_, rfl, hF, ht⟩) (fun q hq => by cases hq) dX6_isPart_6
theorem bX6_isPart (v : Int32) : fX6_isPart v = 0 ∨ fX6_isPart v = 1 := bX6_within ..
def fX6_partOfTurn (q : Int32) (pt : Int32) : Int32 := (if ((q - pt) &&& 3) = 0 then 1 else (if ((q - pt) &&& 3) = 2 then (-1) else 0))
abbrev rmX6_partOfTurn : Room := { frames := 0, cells := 0, slots := 0, locals := 0 }
set_option maxHeartbeats 4000000 in
set_option maxRecDepth 100000 in
theorem c_X6_partOfTurn (l : Launch) (D : va_G) (cI : ClassId) (q : Int32) (pt : Int32)  : Met l yX6_partOfTurn wsX6_partOfTurn rmX6_partOfTurn (va_Pc [.int q, .int pt] (roP D [(cI, .int)] [])) (vp_Si (fun r9 => r9 = fX6_partOfTurn q pt)) 0 0 (fun _ => False) := by
  generalize hF : fX6_partOfTurn q pt = T
  refine Met.ofW (cc := cX6_partOfTurn) (maxL := 3) (ret := (some .int)) (by decide) rfl ?_
  intro p e s m args below meth c s₁ B hml hv
  obtain ⟨rfl, hP, hK⟩ := hv
  have hx := B.exec
  have hb := B.bytes
  have hr := B.returns
  have hts := atoms_spec (ws := wsX6_partOfTurn) B.pre
  have hown : s.vm.findClass RX6 = some m.cls := findClass_of_methodNamed B.named
  have hlocks := B.notSynchronized
  have hl := lv_entry ([.int q, .int pt]) (n := 3) (Nat.le_of_ble_eq_true rfl)
  rw [lg_entry_eq]
  generalize (lg_sl ([.int q, .int pt]) ++ List.replicate (3 - (lg_sl ([.int q, .int pt])).length) Slot.unset).toArray = ls at hl ⊢
  refine w_Q (fun Q hQ => ?_)
  have hl : lv_has ls 3 [(0, .int q), (1, .int pt)] := hl
  rw [fX6_partOfTurn] at hF
  refine lv_iload_n hx hb dX6_partOfTurn_0 rfl (lv_at hl 0 rfl) ?_
  refine lv_iload_n hx hb dX6_partOfTurn_1 rfl (lv_at hl 1 rfl) ?_
  refine lv_isub hx hb dX6_partOfTurn_2 ?_
  refine lv_iconst (v := 3) hx hb dX6_partOfTurn_3 (by decide) ?_
  refine lv_iand hx hb dX6_partOfTurn_4 ?_
  refine lv_istore_n (lv' := [(2, .int ((q - pt) &&& 3)), (0, .int q), (1, .int pt)]) hx hb dX6_partOfTurn_5 rfl hl (by decide) rfl (fun ls hl => ?_)
  refine lv_iload_n hx hb dX6_partOfTurn_6 rfl (lv_at hl 0 rfl) ?_
  refine lv_if_ne (tgt := 12) hx hb dX6_partOfTurn_7 (by decide) (fun c7 => ?_) (fun c7 => ?_)
  · rw [if_neg c7] at hF
    refine lv_iload_n hx hb dX6_partOfTurn_12 rfl (lv_at hl 0 rfl) ?_
    refine lv_iconst (v := 2) hx hb dX6_partOfTurn_13 (by decide) ?_
    refine lv_icmp_ne (tgt := 21) hx hb dX6_partOfTurn_14 (by decide) (fun c14 => ?_) (fun c14 => ?_)
    · rw [if_neg c14] at hF
      refine lv_iconst (v := 0) hx hb dX6_partOfTurn_21 (by decide) ?_
      subst hQ
      exact W.iret (v := 0) hx hb hr (fun u9 ht hW => ⟨_, rfl, hF, ht⟩) (fun q hq => by cases hq) dX6_partOfTurn_22
    · rw [if_pos c14] at hF
      refine lv_iconst (v := (-1)) hx hb dX6_partOfTurn_17 (by decide) ?_
      refine lv_goto (tgt := 22) hx hb dX6_partOfTurn_18 (by decide) ?_
      subst hQ
      exact W.iret (v := (-1)) hx hb hr (fun u9 ht hW => ⟨_, rfl, hF, ht⟩) (fun q hq => by cases hq) dX6_partOfTurn_22
  · rw [if_pos c7] at hF
    refine lv_iconst (v := 1) hx hb dX6_partOfTurn_10 (by decide) ?_
    subst hQ
    exact W.iret (v := 1) hx hb hr (fun u9 ht hW => ⟨_, rfl, hF, ht⟩) (fun q hq => by cases hq) dX6_partOfTurn_11
def fX6_mix (a : Int64) (b : Int64) : Int64 := (31 * a) + b
abbrev rmX6_mix : Room := { frames := 0, cells := 0, slots := 0, locals := 0 }
set_option maxHeartbeats 4000000 in
set_option maxRecDepth 100000 in
theorem c_X6_mix (l : Launch) (D : va_G) (cI : ClassId) (a : Int64) (b : Int64)  : Met l yX6_mix wsX6_mix rmX6_mix (va_Pc [.long a, .long b] (roP D [(cI, .int)] [])) (vp_Sl (fun r9 => r9 = fX6_mix a b)) 0 0 (fun _ => False) := by
  generalize hF : fX6_mix a b = T
  refine Met.ofW (cc := cX6_mix) (maxL := 4) (ret := (some .long)) (by decide) rfl ?_
  intro p e s m args below meth c s₁ B hml hv
  obtain ⟨rfl, hP, hK⟩ := hv
  have hx := B.exec
  have hb := B.bytes
  have hr := B.returns
  have hts := atoms_spec (ws := wsX6_mix) B.pre
  have hown : s.vm.findClass RX6 = some m.cls := findClass_of_methodNamed B.named
  have hlocks := B.notSynchronized
  have hcst203 := hts (.constantLong RX6 203 31) (by decide +kernel)
  have hl := lv_entry ([.long a, .long b]) (n := 4) (Nat.le_of_ble_eq_true rfl)
  rw [lg_entry_eq]
  generalize (lg_sl ([.long a, .long b]) ++ List.replicate (4 - (lg_sl ([.long a, .long b])).length) Slot.unset).toArray = ls at hl ⊢
  refine w_Q (fun Q hQ => ?_)
  have hl : lv_has ls 4 [(0, .long a), (2, .long b)] := hl
  rw [fX6_mix] at hF
  refine lv_ldc2 (v := 31) hx hb hown hcst203 dX6_mix_0 ?_
  refine lv_lload_n hx hb dX6_mix_3 rfl (lv_at hl 0 rfl) ?_
  refine lv_lmul hx hb dX6_mix_4 ?_
  refine lv_lload_n hx hb dX6_mix_5 rfl (lv_at hl 1 rfl) ?_
  refine lv_ladd hx hb dX6_mix_6 ?_
  subst hQ
  exact W.lret (v := (31 * a) + b) hx hb hr (fun u9 ht hW => ⟨_, rfl, hF, ht⟩) (fun q hq => by cases hq) dX6_mix_7
def F_X6_mixAll_6 (tr : Nat → Int32) : Nat → Nat → Int64 → Int64
  | 0, k6, x4 => x4
  | r6 + 1, k6, x4 => F_X6_mixAll_6 tr r6 (k6 + 1) (fX6_mix x4 ((tr k6).toInt64))
def fX6_mixAll (a : Int64) (tr : Nat → Int32) (n : Nat) : Int64 := F_X6_mixAll_6 tr (n - 0) 0 a
abbrev rmX6_mixAll : Room := { frames := 1, cells := 0, slots := 0, locals := 23 }
set_option maxHeartbeats 4000000 in
set_option maxRecDepth 100000 in
theorem c_X6_mixAll (l : Launch) (D : va_G) (cI : ClassId) (a : Int64) (t : Nat) (L : Nat) (tr : Nat → Int32) (n : Nat) (hn : n ≤ L) (hL : L < 2 ^ 20) : Met l yX6_mixAll wsX6_mixAll rmX6_mixAll (va_Pc [.long a, .ref t, .int (nI n)] (roP D [(cI, .int)] [(t, .inl (cI, L, .inl tr))])) (vp_Sl (fun r9 => r9 = fX6_mixAll a tr n)) 0 0 (fun _ => False) := by
  generalize hF : fX6_mixAll a tr n = T
  refine Met.ofW (cc := cX6_mixAll) (maxL := 7) (ret := (some .long)) (by decide) rfl ?_
  intro p e s m args below meth c s₁ B hml hv
  obtain ⟨rfl, hP, hK⟩ := hv
  have hx := B.exec
  have hb := B.bytes
  have hr := B.returns
  have hts := atoms_spec (ws := wsX6_mixAll) B.pre
  have hown : s.vm.findClass RX6 = some m.cls := findClass_of_methodNamed B.named
  have hlocks := B.notSynchronized
  have hl := lv_entry ([.long a, .ref t, .int (nI n)]) (n := 7) (Nat.le_of_ble_eq_true rfl)
  rw [lg_entry_eq]
  generalize (lg_sl ([.long a, .ref t, .int (nI n)]) ++ List.replicate (7 - (lg_sl ([.long a, .ref t, .int (nI n)])).length) Slot.unset).toArray = ls at hl ⊢
  refine w_Q (fun Q hQ => ?_)
  have hl : lv_has ls 7 [(0, .long a), (2, .ref t), (3, .int (nI n))] := hl
  rw [fX6_mixAll] at hF
  refine lv_lload_n hx hb dX6_mixAll_0 rfl (lv_at hl 0 rfl) ?_
  refine lv_lstore (lv' := [(4, .long a), (0, .long a), (2, .ref t), (3, .int (nI n))]) hx hb dX6_mixAll_1 hl (by decide) rfl (fun ls hl => ?_)
  refine lv_iconst (v := 0) hx hb dX6_mixAll_3 (by decide) ?_
  refine lv_istore (lv' := [(6, .int 0), (4, .long a), (0, .long a), (2, .ref t), (3, .int (nI n))]) hx hb dX6_mixAll_4 hl (by decide) rfl (fun ls hl => ?_)
  have lp6 : ∀ (r6 k6 : Nat) (x4 : Int64) (ls : Array Slot), r6 = n - k6 → k6 ≤ n + 1 → lv_has ls 7 [(0, .long a), (2, .ref t), (3, .int (nI n)), (4, .long x4), (6, .int (nI k6))] → F_X6_mixAll_6 tr r6 k6 x4 = T → W p l e (headSpec wsX6_mixAll rmX6_mixAll).room s m ([.long a, .ref t, .int (nI n)] : List Value).toArray below meth c s.heap [] 0 0 Q (F0 m 6 ls []) := by
    intro r6
    induction r6 with
    | zero =>
      intro k6 x4 ls hi6_0 hi6_1 hl hF
      rw [F_X6_mixAll_6] at hF
      refine lv_iload hx hb dX6_mixAll_6 (lv_at hl 4 rfl) ?_
      refine lv_iload_n hx hb dX6_mixAll_8 rfl (lv_at hl 2 rfl) ?_
      refine lv_icmp_ge (tgt := 30) hx hb dX6_mixAll_9 (by decide) (fun c9 => ?_) (fun c9 => ?_)
      · skip
        refine lv_lload hx hb dX6_mixAll_30 (lv_at hl 3 rfl) ?_
        subst hQ
        exact W.lret (v := x4) hx hb hr (fun u9 ht hW => ⟨_, rfl, hF, ht⟩) (fun q hq => by cases hq) dX6_mixAll_32
      · exact False.elim (c9 (nI_le (a := n) (b := k6) (by omega) (by omega)))
    | succ r6 ih6 =>
      intro k6 x4 ls hi6_0 hi6_1 hl hF
      rw [F_X6_mixAll_6] at hF
      refine lv_iload hx hb dX6_mixAll_6 (lv_at hl 4 rfl) ?_
      refine lv_iload_n hx hb dX6_mixAll_8 rfl (lv_at hl 2 rfl) ?_
      refine lv_icmp_ge (tgt := 30) hx hb dX6_mixAll_9 (by decide) (fun c9 => ?_) (fun c9 => ?_)
      · exact False.elim (nI_ge (a := k6) (b := n) (by omega) (by omega) c9)
      · skip
        refine lv_lload hx hb dX6_mixAll_12 (lv_at hl 3 rfl) ?_
        refine lv_aload_n hx hb dX6_mixAll_14 rfl (lv_at hl 1 rfl) ?_
        refine lv_iload hx hb dX6_mixAll_15 (lv_at hl 4 rfl) ?_
        refine w_ald hx hb hK hP 0 0 rfl rfl (k6) rfl (by omega) (by omega) dX6_mixAll_17 ?_
        refine lv_i2l hx hb dX6_mixAll_18 rfl ?_
        have hPc := hP.sub (ws' := []) [] rfl
        refine cs_l (va_runS (As := [.long x4, .long ((tr k6).toInt64)]) (rest := []) ⟨hx, hb, hml, hown, hts⟩ (c_X6_mix l D cI x4 ((tr k6).toInt64) ) (va_cwS 2 hts gX6_mixAll_X6_mix rfl rfl rfl (by decide +kernel) ⟨(Nat.le_of_ble_eq_true rfl), (Nat.le_of_ble_eq_true rfl)⟩) (ro_pre hPc hK) rfl rfl hl.1 rfl (lv_room (Nat.le_of_ble_eq_true rfl)) dX6_mixAll_19 ⟨Nat.zero_le _, Nat.zero_le _⟩) ?_
        refine lv_lstore (lv' := [(4, .long (fX6_mix x4 ((tr k6).toInt64))), (0, .long a), (2, .ref t), (3, .int (nI n)), (6, .int (nI k6))]) hx hb dX6_mixAll_22 hl (by decide) rfl (fun ls hl => ?_)
        refine lv_iinc (v := nI (k6 + 1)) (lv' := [(6, .int (nI (k6 + 1))), (4, .long (fX6_mix x4 ((tr k6).toInt64))), (0, .long a), (2, .ref t), (3, .int (nI n))]) hx hb dX6_mixAll_24 hl (k := 4) rfl (nI_1 _) (by decide) rfl (fun ls hl => ?_)
        refine lv_goto (tgt := 6) hx hb dX6_mixAll_27 (by decide) ?_
        exact ih6 (k6 + 1) (fX6_mix x4 ((tr k6).toInt64)) ls (by omega) (by omega)  (lv_sub hl [2, 3, 4, 1, 0] rfl) hF
  exact lp6 (n - 0) 0 a ls rfl (by omega)  (lv_sub hl [2, 3, 4, 1, 0] rfl) hF
def fX5_has (n : Nat) (i : Int32) : Int32 := fX6_within i 0 ((nI n) - 1)
abbrev rmX5_has : Room := { frames := 1, cells := 0, slots := 0, locals := 22 }
set_option maxHeartbeats 4000000 in
set_option maxRecDepth 100000 in
theorem c_X5_has (l : Launch) (D : va_G) (cI : ClassId) (h : Nat) (t : Nat) (tr : Nat → Int32) (n : Nat) (i : Int32)  : Met l yX5_has wsX5_has rmX5_has (va_Pc [.ref h, .int i] (roP D [(cI, .int)] [(h, .inr (3, [.ref t, .int (nI n)])), (t, .inl (cI, 16, .inl tr))])) (vp_Si (fun r9 => r9 = fX5_has n i)) 0 0 (fun _ => False) := by
  generalize hF : fX5_has n i = T
  refine Met.ofW (cc := cX5_has) (maxL := 2) (ret := (some .boolean)) (by decide) rfl ?_
  intro p e s m args below meth c s₁ B hml hv
  obtain ⟨rfl, hP, hK⟩ := hv
  have hx := B.exec
  have hb := B.bytes
  have hr := B.returns
  have hts := atoms_spec (ws := wsX5_has) B.pre
  have hown : s.vm.findClass RX5 = some m.cls := findClass_of_methodNamed B.named
  have hlocks := B.notSynchronized
  have hinX5 : ∀ w ∈ u_ws RX5 TX5 2, w ∈ wsX5_has := by decide +kernel
  have hf13 := hts (.fieldLink RX5 13 "PulseSigns$Sign" "length" "I") (by decide +kernel)
  have hiniX6 := hts (.initialized RX6) (by decide +kernel)
  have hst_X6_within := hts (.static yX6_within) (by decide +kernel)
  have hl := lv_entry ([.ref h, .int i]) (n := 2) (Nat.le_of_ble_eq_true rfl)
  rw [lg_entry_eq]
  generalize (lg_sl ([.ref h, .int i]) ++ List.replicate (2 - (lg_sl ([.ref h, .int i])).length) Slot.unset).toArray = ls at hl ⊢
  refine w_Q (fun Q hQ => ?_)
  have hl : lv_has ls 2 [(0, .ref h), (1, .int i)] := hl
  rw [fX5_has] at hF
  refine lv_iload_n hx hb dX5_has_0 rfl (lv_at hl 1 rfl) ?_
  refine lv_iconst (v := 0) hx hb dX5_has_1 (by decide) ?_
  refine lv_aload_n hx hb dX5_has_2 rfl (lv_at hl 0 rfl) ?_
  refine va_get (D := D) (ci := 3) (v := .int (nI n)) (C := RX5) (T := TX5) (N := 2) hx hb hts hinX5 hown hK.1 hP 0 rfl rfl 1 (by decide) hf13 (fun _ h9 => h9) rfl dX5_has_3 ?_
  refine lv_iconst (v := 1) hx hb dX5_has_6 (by decide) ?_
  refine lv_isub hx hb dX5_has_7 ?_
  have hPc := hP.sub (ws' := []) [] rfl
  refine cs_i (va_runSN (As := [.int i, .int 0, .int ((nI n) - 1)]) (rest := []) ⟨hx, hb, hml, hown, hts⟩ (c_X6_within l D cI i 0 ((nI n) - 1) ) ⟨va_cnB 3 hts gX5_has_X6_within_n17 rfl rfl rfl hK.2.2.2.1 hiniX6 (by decide +kernel) ⟨(Nat.le_of_ble_eq_true rfl), (Nat.le_of_ble_eq_true rfl)⟩, hst_X6_within, trivial⟩ (ro_pre hPc hK) rfl rfl hl.1 rfl (lv_room (Nat.le_of_ble_eq_true rfl)) dX5_has_8 ⟨Nat.zero_le _, Nat.zero_le _⟩) ?_
  subst hQ
  exact W.zret (v := fX6_within i 0 ((nI n) - 1)) (ty := .boolean) hx hb hr (nb_of (bX6_within ..)) (fun u9 ht hW => ⟨_, rfl, hF, ht⟩) (fun q hq => by cases hq) dX5_has_11
theorem bX5_has (n : Nat) (i : Int32) : fX5_has n i = 0 ∨ fX5_has n i = 1 := bX6_within ..
