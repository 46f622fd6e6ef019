def fX7_in (v : Int32) (lo : Int32) (hi : Int32) : Int32 := (if v < lo then 0 else (if hi < v then 0 else 1))
abbrev rmX7_in : Room := { frames := 0, cells := 0, slots := 0, locals := 0 }
set_option maxHeartbeats 4000000 in
set_option maxRecDepth 100000 in
theorem c_X7_in (l : Launch) (D : va_G) (cI : ClassId) (v : Int32) (lo : Int32) (hi : Int32)  : Met l yX7_in wsX7_in rmX7_in (va_Pc [.int v, .int lo, .int hi] (roP D [(cI, .int)] [])) (vp_Si (fun r9 => r9 = fX7_in v lo hi)) 0 0 (fun _ => False) := by
  generalize hF : fX7_in v lo hi = T
  refine Met.ofW (cc := cX7_in) (maxL := 3) (ret := (some .boolean)) (by decide) rfl ?_
  intro p e s m args below meth c s₁ B hml hv
  obtain ⟨rfl, hP, hK⟩ := hv
  have hx := B.exec
  have hb := B.bytes
  have hr := B.returns
  have hts := atoms_spec (ws := wsX7_in) B.pre
  have hown : s.vm.findClass RX7 = some m.cls := findClass_of_methodNamed B.named
  have hlocks := B.notSynchronized
  have hl := lv_entry ([.int v, .int lo, .int hi]) (n := 3) (Nat.le_of_ble_eq_true rfl)
  rw [lg_entry_eq]
  generalize (lg_sl ([.int v, .int lo, .int hi]) ++ List.replicate (3 - (lg_sl ([.int v, .int lo, .int hi])).length) Slot.unset).toArray = ls at hl ⊢
  refine w_Q (fun Q hQ => ?_)
  have hl : lv_has ls 3 [(0, .int v), (1, .int lo), (2, .int hi)] := hl
  rw [fX7_in] at hF
  refine lv_iload_n hx hb dX7_in_0 rfl (lv_at hl 0 rfl) ?_
  refine lv_iload_n hx hb dX7_in_1 rfl (lv_at hl 1 rfl) ?_
  refine lv_icmp_lt (tgt := 14) hx hb dX7_in_2 (by decide) (fun c2 => ?_) (fun c2 => ?_)
  · rw [if_pos c2] at hF
    refine lv_iconst (v := 0) hx hb dX7_in_14 (by decide) ?_
    subst hQ
    exact W.zret (v := 0) (ty := .boolean) hx hb hr rfl (fun u9 ht hW => ⟨_, rfl, hF, ht⟩) (fun q hq => by cases hq) dX7_in_15
  · rw [if_neg c2] at hF
    refine lv_iload_n hx hb dX7_in_5 rfl (lv_at hl 0 rfl) ?_
    refine lv_iload_n hx hb dX7_in_6 rfl (lv_at hl 2 rfl) ?_
    refine lv_icmp_gt (tgt := 14) hx hb dX7_in_7 (by decide) (fun c7 => ?_) (fun c7 => ?_)
    · rw [if_pos c7] at hF
      refine lv_iconst (v := 0) hx hb dX7_in_14 (by decide) ?_
      subst hQ
      exact W.zret (v := 0) (ty := .boolean) hx hb hr rfl (fun u9 ht hW => ⟨_, rfl, hF, ht⟩) (fun q hq => by cases hq) dX7_in_15
    · rw [if_neg c7] at hF
      refine lv_iconst (v := 1) hx hb dX7_in_10 (by decide) ?_
      refine lv_goto (tgt := 15) hx hb dX7_in_11 (by decide) ?_
      subst hQ
      exact W.zret (v := 1) (ty := .boolean) hx hb hr rfl (fun u9 ht hW => ⟨_, rfl, hF, ht⟩) (fun q hq => by cases hq) dX7_in_15
theorem bX7_in (v : Int32) (lo : Int32) (hi : Int32) : fX7_in v lo hi = 0 ∨ fX7_in v lo hi = 1 := by
  unfold fX7_in
  repeat' split
  all_goals first | exact Or.inl rfl | exact Or.inr rfl
def fX7_isSign (v : Int32) : Int32 := fX7_in v 0 5
abbrev rmX7_isSign : Room := { frames := 1, cells := 0, slots := 0, locals := 22 }
set_option maxHeartbeats 4000000 in
set_option maxRecDepth 100000 in
theorem c_X7_isSign (l : Launch) (D : va_G) (cI : ClassId) (v : Int32)  : Met l yX7_isSign wsX7_isSign rmX7_isSign (va_Pc [.int v] (roP D [(cI, .int)] [])) (vp_Si (fun r9 => r9 = fX7_isSign v)) 0 0 (fun _ => False) := by
  generalize hF : fX7_isSign v = T
  refine Met.ofW (cc := cX7_isSign) (maxL := 1) (ret := (some .boolean)) (by decide) rfl ?_
  intro p e s m args below meth c s₁ B hml hv
  obtain ⟨rfl, hP, hK⟩ := hv
  have hx := B.exec
  have hb := B.bytes
  have hr := B.returns
  have hts := atoms_spec (ws := wsX7_isSign) B.pre
  have hown : s.vm.findClass RX7 = some m.cls := findClass_of_methodNamed B.named
  have hlocks := B.notSynchronized
  have hl := lv_entry ([.int v]) (n := 1) (Nat.le_of_ble_eq_true rfl)
  rw [lg_entry_eq]
  generalize (lg_sl ([.int v]) ++ List.replicate (1 - (lg_sl ([.int v])).length) Slot.unset).toArray = ls at hl ⊢
  refine w_Q (fun Q hQ => ?_)
  have hl : lv_has ls 1 [(0, .int v)] := hl
  rw [fX7_isSign] at hF
  refine lv_iload_n hx hb dX7_isSign_0 rfl (lv_at hl 0 rfl) ?_
  refine lv_iconst (v := 0) hx hb dX7_isSign_1 (by decide) ?_
  refine lv_iconst (v := 5) hx hb dX7_isSign_2 (by decide) ?_
  refine cs_i (va_runS (As := [.int v, .int 0, .int 5]) (rest := []) ⟨hx, hb, hml, hown, hts⟩ (c_X7_in l D cI v 0 5 ) (va_cwS 3 hts gX7_isSign_X7_in rfl rfl rfl (by decide +kernel) ⟨(Nat.le_of_ble_eq_true rfl), (Nat.le_of_ble_eq_true rfl)⟩) (ro_pre hP hK) rfl rfl hl.1 rfl (lv_room (Nat.le_of_ble_eq_true rfl)) dX7_isSign_3 ⟨Nat.zero_le _, Nat.zero_le _⟩) ?_
  subst hQ
  exact W.zret (v := fX7_in v 0 5) (ty := .boolean) hx hb hr (nb_of (bX7_in ..)) (fun u9 ht hW => ⟨_, rfl, hF, ht⟩) (fun q hq => by cases hq) dX7_isSign_6
theorem bX7_isSign (v : Int32) : fX7_isSign v = 0 ∨ fX7_isSign v = 1 := bX7_in ..
