theorem new_i (n : Nat) : ∀ cA : ClassId, vp_cell cA (n, .inl (fun _ => 0)) = arrV cA n (fun _ => defaultValue .int) := fun _ => rfl
theorem arr_same {D : va_G} {cI cA : ClassId} {s : State} (h : va_K D vwCl ([(cI, .int)] ++ [(cA, .int)]) s) : cA = cI := by
  have h1 := (h.2 0 _ rfl).2
  have h2 := (h.2 1 _ rfl).2
  exact Option.some.inj (h2.symm.trans h1)
theorem arr_sameS {D : va_G} {cI cS cA : ClassId} {s : State} (h : va_K D vwCl ([(cI, .int), (cS, .object RX5)] ++ [(cA, .object RX5)]) s) : cA = cS := by
  obtain ⟨k1, c1, -, -, -, h1⟩ := (h.2 1 _ rfl).2
  obtain ⟨k2, c2, -, -, -, h2⟩ := (h.2 2 _ rfl).2
  exact Option.some.inj (h2.symm.trans h1)
abbrev rmX5_init : Room := { frames := 1, cells := 1, slots := 16, locals := 12 }
set_option maxHeartbeats 4000000 in
set_option maxRecDepth 100000 in
theorem c_X5_init (l : Launch) (D : va_G) (cI : ClassId) (sz h : Nat) : Met l yX5_init wsX5_init rmX5_init (va_Pc [.ref h] (wrP D [(cI, .int)] [(h, .inr (3, [.null, .int 0]))] sz)) (va_Qv (fun (_ : Unit) => True) (fun _ u9 => ∃ q7 : Nat, va_P D vwCl [(h, .inr (3, [.ref q7, .int 1])), (q7, .inl (cI, 16, .inl (fun _ => 0)))] u9.heap ∧ va_D (va_A [(h, .inr (3, [.null, .int 0]))] sz) [(h, .inr (3, [.ref q7, .int 1])), (q7, .inl (cI, 16, .inl (fun _ => 0)))]) (va_A [(h, .inr (3, [.null, .int 0]))] sz)) 1 16 (va_A [(h, .inr (3, [.null, .int 0]))] sz) := by
  refine Met.ofW (cc := cX5_init) (maxL := 1) (ret := none) (by decide) rfl ?_
  intro p e s m args below meth c s₁ B hml hv
  obtain ⟨rfl, hsz, hP, hK, hD0⟩ := hv
  have hx := B.exec
  have hb := B.bytes
  have hr := B.returns
  have hts := atoms_spec (ws := wsX5_init) B.pre
  have hown : s.vm.findClass RX5 = some m.cls := findClass_of_methodNamed B.named
  have hlocks := B.notSynchronized
  have hin : meth.name = "<init>" := (name_of_methodNamed B.named B.method).1
  have harr := hts (.arrayClass .int) (by decide +kernel)
  have hinX5 : ∀ w ∈ u_ws RX5 TX5 2, w ∈ wsX5_init := by decide +kernel
  have hf9 := hts (.fieldLink RX5 9 "PulseSigns$Sign" "turns" "[I") (by decide +kernel)
  have hf13 := hts (.fieldLink RX5 13 "PulseSigns$Sign" "length" "I") (by decide +kernel)
  subst hsz
  have hD := hD0.self (sz := s.heap.size)
  generalize hAe : va_A [(h, .inr (3, [.null, .int 0]))] s.heap.size = A at hD ⊢
  have hA : ∀ q : Nat, s.heap.size ≤ q → A q := fun q h => by rw [← hAe]; exact Or.inr h
  have hS : va_S A s.heap s.heap [] := va_S.rf
  have hP : va_P D vwCl [(h, .inr (3, [.null, .int 0]))] s.heap := hP
  have hl := lv_entry ([.ref h]) (n := 1) (Nat.le_of_ble_eq_true rfl)
  rw [lg_entry_eq]
  generalize (lg_sl ([.ref h]) ++ List.replicate (1 - (lg_sl ([.ref h])).length) Slot.unset).toArray = ls at hl ⊢
  have hl : lv_has ls 1 [(0, .ref h)] := hl
  refine w_Q (fun Q hQ => ?_)
  refine lv_aload_n hx hb dX5_init_0 rfl (lv_at hl 0 rfl) ?_
  refine W.objInit hx hb hown (hts (.methodLink RX5 1 objectInit) (by decide +kernel)) (hts (.instanceMethod objectInit) (by decide +kernel)) (hts _ (List.mem_of_getElem? (l := wsX5_init) (i := 3) rfl)) rfl (by rw [hml]; exact hl.1) rfl dX5_init_1 (Nat.le_of_ble_eq_true rfl) (Nat.le_of_ble_eq_true rfl) ?_
  refine W.eq (g2 := F0 m 4 ls []) rfl ?_
  refine lv_aload_n hx hb dX5_init_4 rfl (lv_at hl 0 rfl) ?_
  refine lv_bipush (v := 16) hx hb dX5_init_5 (by decide) ?_
  refine va_newa (atype := .int) (ty := .int) (a0 := (16, .inl (fun _ => 0))) (N' := 16) hx hb harr rfl hK.1 hP hD hS hA (new_i 16) (nI_pos (n := 16) (by omega)) (nI_clamp (n := 16) (by omega)) (Nat.le_of_ble_eq_true rfl) (Nat.le_of_ble_eq_true rfl) (Nat.le_of_ble_eq_true rfl) dX5_init_7 (fun q7 cA H hK2 hP hD hS => ?_)
  have hcA : cA = cI := arr_same hK2
  subst cA
  have hP : va_P D vwCl [(h, .inr (3, [.null, .int 0])), (q7, .inl (cI, 16, .inl (fun _ => 0)))] H := hP
  have hD : va_D A [(h, .inr (3, [.null, .int 0])), (q7, .inl (cI, 16, .inl (fun _ => 0)))] := hD
  refine W.widen (k := 1) (n := 16) (by omega) (by omega) ?_
  refine va_putF (D := D) (ci := 3) (v := .ref q7) (ty := .array .int) (C := RX5) (T := TX5) (N := 2) hx hb hts hinX5 tyX5 tyX5_ok nmX5 hown hK.1 hP hD hS 0 rfl rfl 0 (by decide) hf9 (fun _ h9 => h9) rfl hin rfl (by decide +kernel) rfl rfl (Nat.le_of_ble_eq_true rfl) dX5_init_9 (fun H locs hP hD hS => ?_)
  have hP : va_P D vwCl [(h, .inr (3, [.ref q7, .int 0])), (q7, .inl (cI, 16, .inl (fun _ => 0)))] H := hP
  have hD : va_D A [(h, .inr (3, [.ref q7, .int 0])), (q7, .inl (cI, 16, .inl (fun _ => 0)))] := hD
  refine lv_aload_n hx hb dX5_init_12 rfl (lv_at hl 0 rfl) ?_
  refine lv_iconst (v := 1) hx hb dX5_init_13 (by decide) ?_
  refine va_put (D := D) (ci := 3) (v := .int 1) (ty := .int) (C := RX5) (T := TX5) (N := 2) hx hb hts hinX5 tyX5 tyX5_ok nmX5 hown hK.1 hP hD hS 0 rfl rfl 1 (by decide) hf13 (fun _ h9 => h9) rfl (by decide +kernel) rfl rfl (Nat.le_of_ble_eq_true rfl) dX5_init_14 (fun H locs hP hD hS => ?_)
  have hP : va_P D vwCl [(h, .inr (3, [.ref q7, .int 1])), (q7, .inl (cI, 16, .inl (fun _ => 0)))] H := hP
  have hD : va_D A [(h, .inr (3, [.ref q7, .int 1])), (q7, .inl (cI, 16, .inl (fun _ => 0)))] := hD
  subst hQ
  exact W.vret hx hb hr (fun u9 ht hW => ⟨⟨(), rfl, trivial, q7, by rw [← ht] at hP; exact hP, hD⟩, hS.F ht⟩) hS.2.2 dX5_init_17
abbrev rmX1_init : Room := { frames := 1, cells := 1, slots := 24, locals := 12 }
set_option maxHeartbeats 4000000 in
set_option maxRecDepth 100000 in
theorem c_X1_init (l : Launch) (D : va_G) (cI : ClassId) (sz h : Nat) : Met l yX1_init wsX1_init rmX1_init (va_Pc [.ref h] (wrP D [(cI, .int)] [(h, .inr (0, [.null, .int 0]))] sz)) (va_Qv (fun (_ : Unit) => True) (fun _ u9 => ∃ q7 : Nat, va_P D vwCl [(h, .inr (0, [.ref q7, .int 1])), (q7, .inl (cI, 24, .inl (upd (fun _ => 0) 0 1)))] u9.heap ∧ va_D (va_A [(h, .inr (0, [.null, .int 0]))] sz) [(h, .inr (0, [.ref q7, .int 1])), (q7, .inl (cI, 24, .inl (upd (fun _ => 0) 0 1)))]) (va_A [(h, .inr (0, [.null, .int 0]))] sz)) 1 24 (va_A [(h, .inr (0, [.null, .int 0]))] sz) := by
  refine Met.ofW (cc := cX1_init) (maxL := 1) (ret := none) (by decide) rfl ?_
  intro p e s m args below meth c s₁ B hml hv
  obtain ⟨rfl, hsz, hP, hK, hD0⟩ := hv
  have hx := B.exec
  have hb := B.bytes
  have hr := B.returns
  have hts := atoms_spec (ws := wsX1_init) B.pre
  have hown : s.vm.findClass RX1 = some m.cls := findClass_of_methodNamed B.named
  have hlocks := B.notSynchronized
  have hin : meth.name = "<init>" := (name_of_methodNamed B.named B.method).1
  have harr := hts (.arrayClass .int) (by decide +kernel)
  have hinX1 : ∀ w ∈ u_ws RX1 TX1 2, w ∈ wsX1_init := by decide +kernel
  have hf9 := hts (.fieldLink RX1 9 "PulseSigns$Filter" "numbers" "[I") (by decide +kernel)
  have hf13 := hts (.fieldLink RX1 13 "PulseSigns$Filter" "length" "I") (by decide +kernel)
  subst hsz
  have hD := hD0.self (sz := s.heap.size)
  generalize hAe : va_A [(h, .inr (0, [.null, .int 0]))] s.heap.size = A at hD ⊢
  have hA : ∀ q : Nat, s.heap.size ≤ q → A q := fun q h => by rw [← hAe]; exact Or.inr h
  have hS : va_S A s.heap s.heap [] := va_S.rf
  have hP : va_P D vwCl [(h, .inr (0, [.null, .int 0]))] s.heap := hP
  have hl := lv_entry ([.ref h]) (n := 1) (Nat.le_of_ble_eq_true rfl)
  rw [lg_entry_eq]
  generalize (lg_sl ([.ref h]) ++ List.replicate (1 - (lg_sl ([.ref h])).length) Slot.unset).toArray = ls at hl ⊢
  have hl : lv_has ls 1 [(0, .ref h)] := hl
  refine w_Q (fun Q hQ => ?_)
  refine lv_aload_n hx hb dX1_init_0 rfl (lv_at hl 0 rfl) ?_
  refine W.objInit hx hb hown (hts (.methodLink RX1 1 objectInit) (by decide +kernel)) (hts (.instanceMethod objectInit) (by decide +kernel)) (hts _ (List.mem_of_getElem? (l := wsX1_init) (i := 3) rfl)) rfl (by rw [hml]; exact hl.1) rfl dX1_init_1 (Nat.le_of_ble_eq_true rfl) (Nat.le_of_ble_eq_true rfl) ?_
  refine W.eq (g2 := F0 m 4 ls []) rfl ?_
  refine lv_aload_n hx hb dX1_init_4 rfl (lv_at hl 0 rfl) ?_
  refine lv_bipush (v := 24) hx hb dX1_init_5 (by decide) ?_
  refine va_newa (atype := .int) (ty := .int) (a0 := (24, .inl (fun _ => 0))) (N' := 24) hx hb harr rfl hK.1 hP hD hS hA (new_i 24) (nI_pos (n := 24) (by omega)) (nI_clamp (n := 24) (by omega)) (Nat.le_of_ble_eq_true rfl) (Nat.le_of_ble_eq_true rfl) (Nat.le_of_ble_eq_true rfl) dX1_init_7 (fun q7 cA H hK2 hP hD hS => ?_)
  have hcA : cA = cI := arr_same hK2
  subst cA
  have hP : va_P D vwCl [(h, .inr (0, [.null, .int 0])), (q7, .inl (cI, 24, .inl (fun _ => 0)))] H := hP
  have hD : va_D A [(h, .inr (0, [.null, .int 0])), (q7, .inl (cI, 24, .inl (fun _ => 0)))] := hD
  refine W.widen (k := 1) (n := 24) (by omega) (by omega) ?_
  refine va_putF (D := D) (ci := 0) (v := .ref q7) (ty := .array .int) (C := RX1) (T := TX1) (N := 2) hx hb hts hinX1 tyX1 tyX1_ok nmX1 hown hK.1 hP hD hS 0 rfl rfl 0 (by decide) hf9 (fun _ h9 => h9) rfl hin rfl (by decide +kernel) rfl rfl (Nat.le_of_ble_eq_true rfl) dX1_init_9 (fun H locs hP hD hS => ?_)
  have hP : va_P D vwCl [(h, .inr (0, [.ref q7, .int 0])), (q7, .inl (cI, 24, .inl (fun _ => 0)))] H := hP
  have hD : va_D A [(h, .inr (0, [.ref q7, .int 0])), (q7, .inl (cI, 24, .inl (fun _ => 0)))] := hD
  refine lv_aload_n hx hb dX1_init_12 rfl (lv_at hl 0 rfl) ?_
  refine lv_iconst (v := 1) hx hb dX1_init_13 (by decide) ?_
  refine va_put (D := D) (ci := 0) (v := .int 1) (ty := .int) (C := RX1) (T := TX1) (N := 2) hx hb hts hinX1 tyX1 tyX1_ok nmX1 hown hK.1 hP hD hS 0 rfl rfl 1 (by decide) hf13 (fun _ h9 => h9) rfl (by decide +kernel) rfl rfl (Nat.le_of_ble_eq_true rfl) dX1_init_14 (fun H locs hP hD hS => ?_)
  have hP : va_P D vwCl [(h, .inr (0, [.ref q7, .int 1])), (q7, .inl (cI, 24, .inl (fun _ => 0)))] H := hP
  have hD : va_D A [(h, .inr (0, [.ref q7, .int 1])), (q7, .inl (cI, 24, .inl (fun _ => 0)))] := hD
  refine lv_aload_n hx hb dX1_init_17 rfl (lv_at hl 0 rfl) ?_
  refine va_get (D := D) (ci := 0) (v := .ref q7) (C := RX1) (T := TX1) (N := 2) hx hb hts hinX1 hown hK.1 hP 0 rfl rfl 0 (by decide) hf9 (fun _ h9 => h9) rfl dX1_init_18 ?_
  refine lv_iconst (v := 0) hx hb dX1_init_21 (by decide) ?_
  refine lv_iconst (v := 1) hx hb dX1_init_22 (by decide) ?_
  refine w_ast hx hb hK hP hD hS 1 0 rfl rfl (0) rfl (by decide) (by decide) dX1_init_23 (fun H locs hP hD hS => ?_)
  have hP : va_P D vwCl [(h, .inr (0, [.ref q7, .int 1])), (q7, .inl (cI, 24, .inl (upd (fun _ => 0) 0 1)))] H := hP
  have hD : va_D A [(h, .inr (0, [.ref q7, .int 1])), (q7, .inl (cI, 24, .inl (upd (fun _ => 0) 0 1)))] := hD
  subst hQ
  exact W.vret hx hb hr (fun u9 ht hW => ⟨⟨(), rfl, trivial, q7, by rw [← ht] at hP; exact hP, hD⟩, hS.F ht⟩) hS.2.2 dX1_init_24
abbrev rmX3_init : Room := { frames := 1, cells := 2, slots := 80, locals := 12 }
set_option maxHeartbeats 4000000 in
set_option maxRecDepth 100000 in
theorem c_X3_init (l : Launch) (D : va_G) (cI : ClassId) (sz h : Nat) : Met l yX3_init wsX3_init rmX3_init (va_Pc [.ref h] (wrP D [(cI, .int)] [(h, .inr (2, [.null, .int 0, .null]))] sz)) (va_Qv (fun (_ : Unit) => True) (fun _ u9 => ∃ q7 q20 : Nat, va_P D vwCl [(h, .inr (2, [.ref q7, .int 0, .ref q20])), (q7, .inl (cI, 64, .inl (fun _ => 0))), (q20, .inl (cI, 16, .inl (fun _ => 0)))] u9.heap ∧ va_D (va_A [(h, .inr (2, [.null, .int 0, .null]))] sz) [(h, .inr (2, [.ref q7, .int 0, .ref q20])), (q7, .inl (cI, 64, .inl (fun _ => 0))), (q20, .inl (cI, 16, .inl (fun _ => 0)))]) (va_A [(h, .inr (2, [.null, .int 0, .null]))] sz)) 2 80 (va_A [(h, .inr (2, [.null, .int 0, .null]))] sz) := by
  refine Met.ofW (cc := cX3_init) (maxL := 1) (ret := none) (by decide) rfl ?_
  intro p e s m args below meth c s₁ B hml hv
  obtain ⟨rfl, hsz, hP, hK, hD0⟩ := hv
  have hx := B.exec
  have hb := B.bytes
  have hr := B.returns
  have hts := atoms_spec (ws := wsX3_init) B.pre
  have hown : s.vm.findClass RX3 = some m.cls := findClass_of_methodNamed B.named
  have hlocks := B.notSynchronized
  have hin : meth.name = "<init>" := (name_of_methodNamed B.named B.method).1
  have harr := hts (.arrayClass .int) (by decide +kernel)
  have hinX3 : ∀ w ∈ u_ws RX3 TX3 3, w ∈ wsX3_init := by decide +kernel
  have hf9 := hts (.fieldLink RX3 9 "PulseSigns$Row" "numbers" "[I") (by decide +kernel)
  have hf13 := hts (.fieldLink RX3 13 "PulseSigns$Row" "length" "I") (by decide +kernel)
  have hf17 := hts (.fieldLink RX3 17 "PulseSigns$Row" "ordered" "[I") (by decide +kernel)
  subst hsz
  have hD := hD0.self (sz := s.heap.size)
  generalize hAe : va_A [(h, .inr (2, [.null, .int 0, .null]))] s.heap.size = A at hD ⊢
  have hA : ∀ q : Nat, s.heap.size ≤ q → A q := fun q h => by rw [← hAe]; exact Or.inr h
  have hS : va_S A s.heap s.heap [] := va_S.rf
  have hP : va_P D vwCl [(h, .inr (2, [.null, .int 0, .null]))] s.heap := hP
  have hl := lv_entry ([.ref h]) (n := 1) (Nat.le_of_ble_eq_true rfl)
  rw [lg_entry_eq]
  generalize (lg_sl ([.ref h]) ++ List.replicate (1 - (lg_sl ([.ref h])).length) Slot.unset).toArray = ls at hl ⊢
  have hl : lv_has ls 1 [(0, .ref h)] := hl
  refine w_Q (fun Q hQ => ?_)
  refine lv_aload_n hx hb dX3_init_0 rfl (lv_at hl 0 rfl) ?_
  refine W.objInit hx hb hown (hts (.methodLink RX3 1 objectInit) (by decide +kernel)) (hts (.instanceMethod objectInit) (by decide +kernel)) (hts _ (List.mem_of_getElem? (l := wsX3_init) (i := 3) rfl)) rfl (by rw [hml]; exact hl.1) rfl dX3_init_1 (Nat.le_of_ble_eq_true rfl) (Nat.le_of_ble_eq_true rfl) ?_
  refine W.eq (g2 := F0 m 4 ls []) rfl ?_
  refine lv_aload_n hx hb dX3_init_4 rfl (lv_at hl 0 rfl) ?_
  refine lv_bipush (v := 64) hx hb dX3_init_5 (by decide) ?_
  refine va_newa (atype := .int) (ty := .int) (a0 := (64, .inl (fun _ => 0))) (N' := 64) hx hb harr rfl hK.1 hP hD hS hA (new_i 64) (nI_pos (n := 64) (by omega)) (nI_clamp (n := 64) (by omega)) (Nat.le_of_ble_eq_true rfl) (Nat.le_of_ble_eq_true rfl) (Nat.le_of_ble_eq_true rfl) dX3_init_7 (fun q7 cA H hK2 hP hD hS => ?_)
  have hcA : cA = cI := arr_same hK2
  subst cA
  have hP : va_P D vwCl [(h, .inr (2, [.null, .int 0, .null])), (q7, .inl (cI, 64, .inl (fun _ => 0)))] H := hP
  have hD : va_D A [(h, .inr (2, [.null, .int 0, .null])), (q7, .inl (cI, 64, .inl (fun _ => 0)))] := hD
  refine W.widen (k := 1) (n := 64) (by omega) (by omega) ?_
  refine va_putF (D := D) (ci := 2) (v := .ref q7) (ty := .array .int) (C := RX3) (T := TX3) (N := 3) hx hb hts hinX3 tyX3 tyX3_ok nmX3 hown hK.1 hP hD hS 0 rfl rfl 0 (by decide) hf9 (fun _ h9 => h9) rfl hin rfl (by decide +kernel) rfl rfl (Nat.le_of_ble_eq_true rfl) dX3_init_9 (fun H locs hP hD hS => ?_)
  have hP : va_P D vwCl [(h, .inr (2, [.ref q7, .int 0, .null])), (q7, .inl (cI, 64, .inl (fun _ => 0)))] H := hP
  have hD : va_D A [(h, .inr (2, [.ref q7, .int 0, .null])), (q7, .inl (cI, 64, .inl (fun _ => 0)))] := hD
  refine lv_aload_n hx hb dX3_init_12 rfl (lv_at hl 0 rfl) ?_
  refine lv_iconst (v := 0) hx hb dX3_init_13 (by decide) ?_
  refine va_put (D := D) (ci := 2) (v := .int 0) (ty := .int) (C := RX3) (T := TX3) (N := 3) hx hb hts hinX3 tyX3 tyX3_ok nmX3 hown hK.1 hP hD hS 0 rfl rfl 1 (by decide) hf13 (fun _ h9 => h9) rfl (by decide +kernel) rfl rfl (Nat.le_of_ble_eq_true rfl) dX3_init_14 (fun H locs hP hD hS => ?_)
  have hP : va_P D vwCl [(h, .inr (2, [.ref q7, .int 0, .null])), (q7, .inl (cI, 64, .inl (fun _ => 0)))] H := hP
  have hD : va_D A [(h, .inr (2, [.ref q7, .int 0, .null])), (q7, .inl (cI, 64, .inl (fun _ => 0)))] := hD
  refine lv_aload_n hx hb dX3_init_17 rfl (lv_at hl 0 rfl) ?_
  refine lv_bipush (v := 16) hx hb dX3_init_18 (by decide) ?_
  refine va_newa (atype := .int) (ty := .int) (a0 := (16, .inl (fun _ => 0))) (N' := 16) hx hb harr rfl hK.1 hP hD hS hA (new_i 16) (nI_pos (n := 16) (by omega)) (nI_clamp (n := 16) (by omega)) (Nat.le_of_ble_eq_true rfl) (Nat.le_of_ble_eq_true rfl) (Nat.le_of_ble_eq_true rfl) dX3_init_20 (fun q20 cA H hK2 hP hD hS => ?_)
  have hcA : cA = cI := arr_same hK2
  subst cA
  have hP : va_P D vwCl [(h, .inr (2, [.ref q7, .int 0, .null])), (q7, .inl (cI, 64, .inl (fun _ => 0))), (q20, .inl (cI, 16, .inl (fun _ => 0)))] H := hP
  have hD : va_D A [(h, .inr (2, [.ref q7, .int 0, .null])), (q7, .inl (cI, 64, .inl (fun _ => 0))), (q20, .inl (cI, 16, .inl (fun _ => 0)))] := hD
  refine W.widen (k := 2) (n := 80) (by omega) (by omega) ?_
  refine va_putF (D := D) (ci := 2) (v := .ref q20) (ty := .array .int) (C := RX3) (T := TX3) (N := 3) hx hb hts hinX3 tyX3 tyX3_ok nmX3 hown hK.1 hP hD hS 0 rfl rfl 2 (by decide) hf17 (fun _ h9 => h9) rfl hin rfl (by decide +kernel) rfl rfl (Nat.le_of_ble_eq_true rfl) dX3_init_22 (fun H locs hP hD hS => ?_)
  have hP : va_P D vwCl [(h, .inr (2, [.ref q7, .int 0, .ref q20])), (q7, .inl (cI, 64, .inl (fun _ => 0))), (q20, .inl (cI, 16, .inl (fun _ => 0)))] H := hP
  have hD : va_D A [(h, .inr (2, [.ref q7, .int 0, .ref q20])), (q7, .inl (cI, 64, .inl (fun _ => 0))), (q20, .inl (cI, 16, .inl (fun _ => 0)))] := hD
  subst hQ
  exact W.vret hx hb hr (fun u9 ht hW => ⟨⟨(), rfl, trivial, q7, q20, by rw [← ht] at hP; exact hP, hD⟩, hS.F ht⟩) hS.2.2 dX3_init_25
abbrev rmX2_init : Room := { frames := 1, cells := 2, slots := 8, locals := 22 }
set_option maxHeartbeats 4000000 in
set_option maxRecDepth 100000 in
theorem c_X2_init (l : Launch) (D : va_G) (cI : ClassId) (sz h : Nat) : Met l yX2_init wsX2_init rmX2_init (va_Pc [.ref h] (wrP D [(cI, .int)] [(h, .inr (1, [.null, .null, .int 0]))] sz)) (va_Qv (fun (_ : Unit) => True) (fun _ u9 => ∃ q6 q13 : Nat, va_P D vwCl [(h, .inr (1, [.ref q6, .ref q13, .int (nI ((fX2_reset (fun _ => 0) (fun _ => 0) 1).1))])), (q6, .inl (cI, 4, .inl ((fX2_reset (fun _ => 0) (fun _ => 0) 1).2.1))), (q13, .inl (cI, 4, .inl ((fX2_reset (fun _ => 0) (fun _ => 0) 1).2.2)))] u9.heap ∧ va_D (va_A [(h, .inr (1, [.null, .null, .int 0]))] sz) [(h, .inr (1, [.ref q6, .ref q13, .int (nI ((fX2_reset (fun _ => 0) (fun _ => 0) 1).1))])), (q6, .inl (cI, 4, .inl ((fX2_reset (fun _ => 0) (fun _ => 0) 1).2.1))), (q13, .inl (cI, 4, .inl ((fX2_reset (fun _ => 0) (fun _ => 0) 1).2.2)))]) (va_A [(h, .inr (1, [.null, .null, .int 0]))] sz)) 2 8 (va_A [(h, .inr (1, [.null, .null, .int 0]))] sz) := by
  refine Met.ofW (cc := cX2_init) (maxL := 1) (ret := none) (by decide) rfl ?_
  intro p e s m args below meth c s₁ B hml hv
  obtain ⟨rfl, hsz, hP, hK, hD0⟩ := hv
  have hx := B.exec
  have hb := B.bytes
  have hr := B.returns
  have hts := atoms_spec (ws := wsX2_init) B.pre
  have hown : s.vm.findClass RX2 = some m.cls := findClass_of_methodNamed B.named
  have hlocks := B.notSynchronized
  have hin : meth.name = "<init>" := (name_of_methodNamed B.named B.method).1
  have harr := hts (.arrayClass .int) (by decide +kernel)
  have hinX2 : ∀ w ∈ u_ws RX2 TX2 3, w ∈ wsX2_init := by decide +kernel
  have hf11 := hts (.fieldLink RX2 11 "PulseSigns$Rests" "periods" "[I") (by decide +kernel)
  have hf15 := hts (.fieldLink RX2 15 "PulseSigns$Rests" "readings" "[I") (by decide +kernel)
  subst hsz
  have hD := hD0.self (sz := s.heap.size)
  generalize hAe : va_A [(h, .inr (1, [.null, .null, .int 0]))] s.heap.size = A at hD ⊢
  have hA : ∀ q : Nat, s.heap.size ≤ q → A q := fun q h => by rw [← hAe]; exact Or.inr h
  have hS : va_S A s.heap s.heap [] := va_S.rf
  have hP : va_P D vwCl [(h, .inr (1, [.null, .null, .int 0]))] s.heap := hP
  have hl := lv_entry ([.ref h]) (n := 1) (Nat.le_of_ble_eq_true rfl)
  rw [lg_entry_eq]
  generalize (lg_sl ([.ref h]) ++ List.replicate (1 - (lg_sl ([.ref h])).length) Slot.unset).toArray = ls at hl ⊢
  have hl : lv_has ls 1 [(0, .ref h)] := hl
  refine w_Q (fun Q hQ => ?_)
  refine lv_aload_n hx hb dX2_init_0 rfl (lv_at hl 0 rfl) ?_
  refine W.objInit hx hb hown (hts (.methodLink RX2 3 objectInit) (by decide +kernel)) (hts (.instanceMethod objectInit) (by decide +kernel)) (hts _ (List.mem_of_getElem? (l := wsX2_init) (i := 3) rfl)) rfl (by rw [hml]; exact hl.1) rfl dX2_init_1 (Nat.le_of_ble_eq_true rfl) (Nat.le_of_ble_eq_true rfl) ?_
  refine W.eq (g2 := F0 m 4 ls []) rfl ?_
  refine lv_aload_n hx hb dX2_init_4 rfl (lv_at hl 0 rfl) ?_
  refine lv_iconst (v := 4) hx hb dX2_init_5 (by decide) ?_
  refine va_newa (atype := .int) (ty := .int) (a0 := (4, .inl (fun _ => 0))) (N' := 4) hx hb harr rfl hK.1 hP hD hS hA (new_i 4) (nI_pos (n := 4) (by omega)) (nI_clamp (n := 4) (by omega)) (Nat.le_of_ble_eq_true rfl) (Nat.le_of_ble_eq_true rfl) (Nat.le_of_ble_eq_true rfl) dX2_init_6 (fun q6 cA H hK2 hP hD hS => ?_)
  have hcA : cA = cI := arr_same hK2
  subst cA
  have hP : va_P D vwCl [(h, .inr (1, [.null, .null, .int 0])), (q6, .inl (cI, 4, .inl (fun _ => 0)))] H := hP
  have hD : va_D A [(h, .inr (1, [.null, .null, .int 0])), (q6, .inl (cI, 4, .inl (fun _ => 0)))] := hD
  refine W.widen (k := 1) (n := 4) (by omega) (by omega) ?_
  refine va_putF (D := D) (ci := 1) (v := .ref q6) (ty := .array .int) (C := RX2) (T := TX2) (N := 3) hx hb hts hinX2 tyX2 tyX2_ok nmX2 hown hK.1 hP hD hS 0 rfl rfl 0 (by decide) hf11 (fun _ h9 => h9) rfl hin rfl (by decide +kernel) rfl rfl (Nat.le_of_ble_eq_true rfl) dX2_init_8 (fun H locs hP hD hS => ?_)
  have hP : va_P D vwCl [(h, .inr (1, [.ref q6, .null, .int 0])), (q6, .inl (cI, 4, .inl (fun _ => 0)))] H := hP
  have hD : va_D A [(h, .inr (1, [.ref q6, .null, .int 0])), (q6, .inl (cI, 4, .inl (fun _ => 0)))] := hD
  refine lv_aload_n hx hb dX2_init_11 rfl (lv_at hl 0 rfl) ?_
  refine lv_iconst (v := 4) hx hb dX2_init_12 (by decide) ?_
  refine va_newa (atype := .int) (ty := .int) (a0 := (4, .inl (fun _ => 0))) (N' := 4) hx hb harr rfl hK.1 hP hD hS hA (new_i 4) (nI_pos (n := 4) (by omega)) (nI_clamp (n := 4) (by omega)) (Nat.le_of_ble_eq_true rfl) (Nat.le_of_ble_eq_true rfl) (Nat.le_of_ble_eq_true rfl) dX2_init_13 (fun q13 cA H hK2 hP hD hS => ?_)
  have hcA : cA = cI := arr_same hK2
  subst cA
  have hP : va_P D vwCl [(h, .inr (1, [.ref q6, .null, .int 0])), (q6, .inl (cI, 4, .inl (fun _ => 0))), (q13, .inl (cI, 4, .inl (fun _ => 0)))] H := hP
  have hD : va_D A [(h, .inr (1, [.ref q6, .null, .int 0])), (q6, .inl (cI, 4, .inl (fun _ => 0))), (q13, .inl (cI, 4, .inl (fun _ => 0)))] := hD
  refine W.widen (k := 2) (n := 8) (by omega) (by omega) ?_
  refine va_putF (D := D) (ci := 1) (v := .ref q13) (ty := .array .int) (C := RX2) (T := TX2) (N := 3) hx hb hts hinX2 tyX2 tyX2_ok nmX2 hown hK.1 hP hD hS 0 rfl rfl 1 (by decide) hf15 (fun _ h9 => h9) rfl hin rfl (by decide +kernel) rfl rfl (Nat.le_of_ble_eq_true rfl) dX2_init_15 (fun H locs hP hD hS => ?_)
  have hP : va_P D vwCl [(h, .inr (1, [.ref q6, .ref q13, .int 0])), (q6, .inl (cI, 4, .inl (fun _ => 0))), (q13, .inl (cI, 4, .inl (fun _ => 0)))] H := hP
  have hD : va_D A [(h, .inr (1, [.ref q6, .ref q13, .int 0])), (q6, .inl (cI, 4, .inl (fun _ => 0))), (q13, .inl (cI, 4, .inl (fun _ => 0)))] := hD
  refine lv_aload_n hx hb dX2_init_18 rfl (lv_at hl 0 rfl) ?_
  refine lv_iconst (v := 1) hx hb dX2_init_19 (by decide) ?_
  refine cx_v (va_runV (As := [.int 1]) (rest := []) ⟨hx, hb, hml, hown, hts⟩ (c_X2_reset l D cI H.size h q6 q13 (fun _ => 0) (fun _ => 0) 0 1 ) (cwV 1 hts gX2_init_X2_reset rfl rfl rfl (by decide +kernel) ⟨(Nat.le_of_ble_eq_true rfl), (Nat.le_of_ble_eq_true rfl)⟩) (wr_preV hP hD hK rfl (q0 := 0) rfl) rfl rfl hl.1 rfl (lv_room (Nat.le_of_ble_eq_true rfl)) dX2_init_20 ⟨(Nat.le_of_ble_eq_true rfl), (Nat.le_of_ble_eq_true rfl)⟩) hP hD hS hA [0, 1, 2] rfl [h, q6, q13] rfl rfl (fun H locs hP hD hS => ?_)
  have hP : va_P D vwCl [(h, .inr (1, [.ref q6, .ref q13, .int (nI ((fX2_reset (fun _ => 0) (fun _ => 0) 1).1))])), (q6, .inl (cI, 4, .inl ((fX2_reset (fun _ => 0) (fun _ => 0) 1).2.1))), (q13, .inl (cI, 4, .inl ((fX2_reset (fun _ => 0) (fun _ => 0) 1).2.2)))] H := hP
  have hD : va_D A [(h, .inr (1, [.ref q6, .ref q13, .int (nI ((fX2_reset (fun _ => 0) (fun _ => 0) 1).1))])), (q6, .inl (cI, 4, .inl ((fX2_reset (fun _ => 0) (fun _ => 0) 1).2.1))), (q13, .inl (cI, 4, .inl ((fX2_reset (fun _ => 0) (fun _ => 0) 1).2.2)))] := hD
  subst hQ
  exact W.vret hx hb hr (fun u9 ht hW => ⟨⟨(), rfl, trivial, q6, q13, by rw [← ht] at hP; exact hP, hD⟩, hS.F ht⟩) hS.2.2 dX2_init_23
abbrev rmX7_init : Room := { frames := 1, cells := 7, slots := 214, locals := 12 }
set_option maxHeartbeats 4000000 in
set_option maxRecDepth 100000 in
theorem c_X7_init (l : Launch) (D : va_G) (cI : ClassId) (sz h : Nat) : Met l yX7_init wsX7_init rmX7_init (va_Pc [.ref h] (wrP D [(cI, .int)] [(h, .inr (5, [.null, .null, .int 0, .null, .int 0, .null, .null, .int 0, .null, .int 0, .int 0, .int 0, .null, .long 0, .long 0, .long 0]))] sz)) (va_Qv (fun (_ : Unit) => True) (fun _ u9 => ∃ q7 q15 q28 q40 q47 q55 q63 : Nat, va_P D vwCl [(h, .inr (5, [.ref q7, .ref q15, .int 1, .ref q28, .int 1, .ref q40, .ref q47, .int 0, .ref q55, .int 0, .int 0, .int 0, .ref q63, .long 0, .long 0, .long 0])), (q7, .inl (cI, 6, .inl (upd (upd (upd (upd (upd (upd (fun _ => 0) 0 1) 1 1) 2 1) 3 1) 4 1) 5 1))), (q15, .inl (cI, 96, .inl (fun _ => 0))), (q28, .inl (cI, 24, .inl (upd (fun _ => 0) 0 1))), (q40, .inl (cI, 4, .inl (upd (fun _ => 0) 0 2))), (q47, .inl (cI, 4, .inl (upd (fun _ => 0) 0 (-1)))), (q55, .inl (cI, 64, .inl (fun _ => 0))), (q63, .inl (cI, 16, .inl (fun _ => 0)))] u9.heap ∧ va_D (va_A [(h, .inr (5, [.null, .null, .int 0, .null, .int 0, .null, .null, .int 0, .null, .int 0, .int 0, .int 0, .null, .long 0, .long 0, .long 0]))] sz) [(h, .inr (5, [.ref q7, .ref q15, .int 1, .ref q28, .int 1, .ref q40, .ref q47, .int 0, .ref q55, .int 0, .int 0, .int 0, .ref q63, .long 0, .long 0, .long 0])), (q7, .inl (cI, 6, .inl (upd (upd (upd (upd (upd (upd (fun _ => 0) 0 1) 1 1) 2 1) 3 1) 4 1) 5 1))), (q15, .inl (cI, 96, .inl (fun _ => 0))), (q28, .inl (cI, 24, .inl (upd (fun _ => 0) 0 1))), (q40, .inl (cI, 4, .inl (upd (fun _ => 0) 0 2))), (q47, .inl (cI, 4, .inl (upd (fun _ => 0) 0 (-1)))), (q55, .inl (cI, 64, .inl (fun _ => 0))), (q63, .inl (cI, 16, .inl (fun _ => 0)))]) (va_A [(h, .inr (5, [.null, .null, .int 0, .null, .int 0, .null, .null, .int 0, .null, .int 0, .int 0, .int 0, .null, .long 0, .long 0, .long 0]))] sz)) 7 214 (va_A [(h, .inr (5, [.null, .null, .int 0, .null, .int 0, .null, .null, .int 0, .null, .int 0, .int 0, .int 0, .null, .long 0, .long 0, .long 0]))] sz) := by
  refine Met.ofW (cc := cX7_init) (maxL := 2) (ret := none) (by decide) rfl ?_
  intro p e s m args below meth c s₁ B hml hv
  obtain ⟨rfl, hsz, hP, hK, hD0⟩ := hv
  have hx := B.exec
  have hb := B.bytes
  have hr := B.returns
  have hts := atoms_spec (ws := wsX7_init) B.pre
  have hown : s.vm.findClass RX7 = some m.cls := findClass_of_methodNamed B.named
  have hlocks := B.notSynchronized
  have hin : meth.name = "<init>" := (name_of_methodNamed B.named B.method).1
  have harr := hts (.arrayClass .int) (by decide +kernel)
  have hinX7 : ∀ w ∈ u_ws RX7 TX7 16, w ∈ wsX7_init := by decide +kernel
  have hf7 := hts (.fieldLink RX7 7 "PulseSignsModel" "sizes" "[I") (by decide +kernel)
  have hf13 := hts (.fieldLink RX7 13 "PulseSignsModel" "turns" "[I") (by decide +kernel)
  have hf16 := hts (.fieldLink RX7 16 "PulseSignsModel" "filterSize" "I") (by decide +kernel)
  have hf20 := hts (.fieldLink RX7 20 "PulseSignsModel" "weights" "[I") (by decide +kernel)
  have hf23 := hts (.fieldLink RX7 23 "PulseSignsModel" "restMany" "I") (by decide +kernel)
  have hf26 := hts (.fieldLink RX7 26 "PulseSignsModel" "restOf" "[I") (by decide +kernel)
  have hf29 := hts (.fieldLink RX7 29 "PulseSignsModel" "readOf" "[I") (by decide +kernel)
  have hf32 := hts (.fieldLink RX7 32 "PulseSignsModel" "row" "[I") (by decide +kernel)
  have hf35 := hts (.fieldLink RX7 35 "PulseSignsModel" "copy" "[I") (by decide +kernel)
  subst hsz
  have hD := hD0.self (sz := s.heap.size)
  generalize hAe : va_A [(h, .inr (5, [.null, .null, .int 0, .null, .int 0, .null, .null, .int 0, .null, .int 0, .int 0, .int 0, .null, .long 0, .long 0, .long 0]))] s.heap.size = A at hD ⊢
  have hA : ∀ q : Nat, s.heap.size ≤ q → A q := fun q h => by rw [← hAe]; exact Or.inr h
  have hS : va_S A s.heap s.heap [] := va_S.rf
  have hP : va_P D vwCl [(h, .inr (5, [.null, .null, .int 0, .null, .int 0, .null, .null, .int 0, .null, .int 0, .int 0, .int 0, .null, .long 0, .long 0, .long 0]))] s.heap := hP
  have hl := lv_entry ([.ref h]) (n := 2) (Nat.le_of_ble_eq_true rfl)
  rw [lg_entry_eq]
  generalize (lg_sl ([.ref h]) ++ List.replicate (2 - (lg_sl ([.ref h])).length) Slot.unset).toArray = ls at hl ⊢
  have hl : lv_has ls 2 [(0, .ref h)] := hl
  refine w_Q (fun Q hQ => ?_)
  refine lv_aload_n hx hb dX7_init_0 rfl (lv_at hl 0 rfl) ?_
  refine W.objInit hx hb hown (hts (.methodLink RX7 1 objectInit) (by decide +kernel)) (hts (.instanceMethod objectInit) (by decide +kernel)) (hts _ (List.mem_of_getElem? (l := wsX7_init) (i := 3) rfl)) rfl (by rw [hml]; exact hl.1) rfl dX7_init_1 (Nat.le_of_ble_eq_true rfl) (Nat.le_of_ble_eq_true rfl) ?_
  refine W.eq (g2 := F0 m 4 ls []) rfl ?_
  refine lv_aload_n hx hb dX7_init_4 rfl (lv_at hl 0 rfl) ?_
  refine lv_bipush (v := 6) hx hb dX7_init_5 (by decide) ?_
  refine va_newa (atype := .int) (ty := .int) (a0 := (6, .inl (fun _ => 0))) (N' := 6) hx hb harr rfl hK.1 hP hD hS hA (new_i 6) (nI_pos (n := 6) (by omega)) (nI_clamp (n := 6) (by omega)) (Nat.le_of_ble_eq_true rfl) (Nat.le_of_ble_eq_true rfl) (Nat.le_of_ble_eq_true rfl) dX7_init_7 (fun q7 cA H hK2 hP hD hS => ?_)
  have hcA : cA = cI := arr_same hK2
  subst cA
  have hP : va_P D vwCl [(h, .inr (5, [.null, .null, .int 0, .null, .int 0, .null, .null, .int 0, .null, .int 0, .int 0, .int 0, .null, .long 0, .long 0, .long 0])), (q7, .inl (cI, 6, .inl (fun _ => 0)))] H := hP
  have hD : va_D A [(h, .inr (5, [.null, .null, .int 0, .null, .int 0, .null, .null, .int 0, .null, .int 0, .int 0, .int 0, .null, .long 0, .long 0, .long 0])), (q7, .inl (cI, 6, .inl (fun _ => 0)))] := hD
  refine W.widen (k := 1) (n := 6) (by omega) (by omega) ?_
  refine va_putF (D := D) (ci := 5) (v := .ref q7) (ty := .array .int) (C := RX7) (T := TX7) (N := 16) hx hb hts hinX7 tyX7 tyX7_ok nmX7 hown hK.1 hP hD hS 0 rfl rfl 0 (by decide) hf7 (fun _ h9 => h9) rfl hin rfl (by decide +kernel) rfl rfl (Nat.le_of_ble_eq_true rfl) dX7_init_9 (fun H locs hP hD hS => ?_)
  have hP : va_P D vwCl [(h, .inr (5, [.ref q7, .null, .int 0, .null, .int 0, .null, .null, .int 0, .null, .int 0, .int 0, .int 0, .null, .long 0, .long 0, .long 0])), (q7, .inl (cI, 6, .inl (fun _ => 0)))] H := hP
  have hD : va_D A [(h, .inr (5, [.ref q7, .null, .int 0, .null, .int 0, .null, .null, .int 0, .null, .int 0, .int 0, .int 0, .null, .long 0, .long 0, .long 0])), (q7, .inl (cI, 6, .inl (fun _ => 0)))] := hD
  refine lv_aload_n hx hb dX7_init_12 rfl (lv_at hl 0 rfl) ?_
  refine lv_bipush (v := 96) hx hb dX7_init_13 (by decide) ?_
  refine va_newa (atype := .int) (ty := .int) (a0 := (96, .inl (fun _ => 0))) (N' := 96) hx hb harr rfl hK.1 hP hD hS hA (new_i 96) (nI_pos (n := 96) (by omega)) (nI_clamp (n := 96) (by omega)) (Nat.le_of_ble_eq_true rfl) (Nat.le_of_ble_eq_true rfl) (Nat.le_of_ble_eq_true rfl) dX7_init_15 (fun q15 cA H hK2 hP hD hS => ?_)
  have hcA : cA = cI := arr_same hK2
  subst cA
  have hP : va_P D vwCl [(h, .inr (5, [.ref q7, .null, .int 0, .null, .int 0, .null, .null, .int 0, .null, .int 0, .int 0, .int 0, .null, .long 0, .long 0, .long 0])), (q7, .inl (cI, 6, .inl (fun _ => 0))), (q15, .inl (cI, 96, .inl (fun _ => 0)))] H := hP
  have hD : va_D A [(h, .inr (5, [.ref q7, .null, .int 0, .null, .int 0, .null, .null, .int 0, .null, .int 0, .int 0, .int 0, .null, .long 0, .long 0, .long 0])), (q7, .inl (cI, 6, .inl (fun _ => 0))), (q15, .inl (cI, 96, .inl (fun _ => 0)))] := hD
  refine W.widen (k := 2) (n := 102) (by omega) (by omega) ?_
  refine va_putF (D := D) (ci := 5) (v := .ref q15) (ty := .array .int) (C := RX7) (T := TX7) (N := 16) hx hb hts hinX7 tyX7 tyX7_ok nmX7 hown hK.1 hP hD hS 0 rfl rfl 1 (by decide) hf13 (fun _ h9 => h9) rfl hin rfl (by decide +kernel) rfl rfl (Nat.le_of_ble_eq_true rfl) dX7_init_17 (fun H locs hP hD hS => ?_)
  have hP : va_P D vwCl [(h, .inr (5, [.ref q7, .ref q15, .int 0, .null, .int 0, .null, .null, .int 0, .null, .int 0, .int 0, .int 0, .null, .long 0, .long 0, .long 0])), (q7, .inl (cI, 6, .inl (fun _ => 0))), (q15, .inl (cI, 96, .inl (fun _ => 0)))] H := hP
  have hD : va_D A [(h, .inr (5, [.ref q7, .ref q15, .int 0, .null, .int 0, .null, .null, .int 0, .null, .int 0, .int 0, .int 0, .null, .long 0, .long 0, .long 0])), (q7, .inl (cI, 6, .inl (fun _ => 0))), (q15, .inl (cI, 96, .inl (fun _ => 0)))] := hD
  refine lv_aload_n hx hb dX7_init_20 rfl (lv_at hl 0 rfl) ?_
  refine lv_iconst (v := 1) hx hb dX7_init_21 (by decide) ?_
  refine va_put (D := D) (ci := 5) (v := .int 1) (ty := .int) (C := RX7) (T := TX7) (N := 16) hx hb hts hinX7 tyX7 tyX7_ok nmX7 hown hK.1 hP hD hS 0 rfl rfl 2 (by decide) hf16 (fun _ h9 => h9) rfl (by decide +kernel) rfl rfl (Nat.le_of_ble_eq_true rfl) dX7_init_22 (fun H locs hP hD hS => ?_)
  have hP : va_P D vwCl [(h, .inr (5, [.ref q7, .ref q15, .int 1, .null, .int 0, .null, .null, .int 0, .null, .int 0, .int 0, .int 0, .null, .long 0, .long 0, .long 0])), (q7, .inl (cI, 6, .inl (fun _ => 0))), (q15, .inl (cI, 96, .inl (fun _ => 0)))] H := hP
  have hD : va_D A [(h, .inr (5, [.ref q7, .ref q15, .int 1, .null, .int 0, .null, .null, .int 0, .null, .int 0, .int 0, .int 0, .null, .long 0, .long 0, .long 0])), (q7, .inl (cI, 6, .inl (fun _ => 0))), (q15, .inl (cI, 96, .inl (fun _ => 0)))] := hD
  refine lv_aload_n hx hb dX7_init_25 rfl (lv_at hl 0 rfl) ?_
  refine lv_bipush (v := 24) hx hb dX7_init_26 (by decide) ?_
  refine va_newa (atype := .int) (ty := .int) (a0 := (24, .inl (fun _ => 0))) (N' := 24) hx hb harr rfl hK.1 hP hD hS hA (new_i 24) (nI_pos (n := 24) (by omega)) (nI_clamp (n := 24) (by omega)) (Nat.le_of_ble_eq_true rfl) (Nat.le_of_ble_eq_true rfl) (Nat.le_of_ble_eq_true rfl) dX7_init_28 (fun q28 cA H hK2 hP hD hS => ?_)
  have hcA : cA = cI := arr_same hK2
  subst cA
  have hP : va_P D vwCl [(h, .inr (5, [.ref q7, .ref q15, .int 1, .null, .int 0, .null, .null, .int 0, .null, .int 0, .int 0, .int 0, .null, .long 0, .long 0, .long 0])), (q7, .inl (cI, 6, .inl (fun _ => 0))), (q15, .inl (cI, 96, .inl (fun _ => 0))), (q28, .inl (cI, 24, .inl (fun _ => 0)))] H := hP
  have hD : va_D A [(h, .inr (5, [.ref q7, .ref q15, .int 1, .null, .int 0, .null, .null, .int 0, .null, .int 0, .int 0, .int 0, .null, .long 0, .long 0, .long 0])), (q7, .inl (cI, 6, .inl (fun _ => 0))), (q15, .inl (cI, 96, .inl (fun _ => 0))), (q28, .inl (cI, 24, .inl (fun _ => 0)))] := hD
  refine W.widen (k := 3) (n := 126) (by omega) (by omega) ?_
  refine va_putF (D := D) (ci := 5) (v := .ref q28) (ty := .array .int) (C := RX7) (T := TX7) (N := 16) hx hb hts hinX7 tyX7 tyX7_ok nmX7 hown hK.1 hP hD hS 0 rfl rfl 3 (by decide) hf20 (fun _ h9 => h9) rfl hin rfl (by decide +kernel) rfl rfl (Nat.le_of_ble_eq_true rfl) dX7_init_30 (fun H locs hP hD hS => ?_)
  have hP : va_P D vwCl [(h, .inr (5, [.ref q7, .ref q15, .int 1, .ref q28, .int 0, .null, .null, .int 0, .null, .int 0, .int 0, .int 0, .null, .long 0, .long 0, .long 0])), (q7, .inl (cI, 6, .inl (fun _ => 0))), (q15, .inl (cI, 96, .inl (fun _ => 0))), (q28, .inl (cI, 24, .inl (fun _ => 0)))] H := hP
  have hD : va_D A [(h, .inr (5, [.ref q7, .ref q15, .int 1, .ref q28, .int 0, .null, .null, .int 0, .null, .int 0, .int 0, .int 0, .null, .long 0, .long 0, .long 0])), (q7, .inl (cI, 6, .inl (fun _ => 0))), (q15, .inl (cI, 96, .inl (fun _ => 0))), (q28, .inl (cI, 24, .inl (fun _ => 0)))] := hD
  refine lv_aload_n hx hb dX7_init_33 rfl (lv_at hl 0 rfl) ?_
  refine lv_iconst (v := 1) hx hb dX7_init_34 (by decide) ?_
  refine va_put (D := D) (ci := 5) (v := .int 1) (ty := .int) (C := RX7) (T := TX7) (N := 16) hx hb hts hinX7 tyX7 tyX7_ok nmX7 hown hK.1 hP hD hS 0 rfl rfl 4 (by decide) hf23 (fun _ h9 => h9) rfl (by decide +kernel) rfl rfl (Nat.le_of_ble_eq_true rfl) dX7_init_35 (fun H locs hP hD hS => ?_)
  have hP : va_P D vwCl [(h, .inr (5, [.ref q7, .ref q15, .int 1, .ref q28, .int 1, .null, .null, .int 0, .null, .int 0, .int 0, .int 0, .null, .long 0, .long 0, .long 0])), (q7, .inl (cI, 6, .inl (fun _ => 0))), (q15, .inl (cI, 96, .inl (fun _ => 0))), (q28, .inl (cI, 24, .inl (fun _ => 0)))] H := hP
  have hD : va_D A [(h, .inr (5, [.ref q7, .ref q15, .int 1, .ref q28, .int 1, .null, .null, .int 0, .null, .int 0, .int 0, .int 0, .null, .long 0, .long 0, .long 0])), (q7, .inl (cI, 6, .inl (fun _ => 0))), (q15, .inl (cI, 96, .inl (fun _ => 0))), (q28, .inl (cI, 24, .inl (fun _ => 0)))] := hD
  refine lv_aload_n hx hb dX7_init_38 rfl (lv_at hl 0 rfl) ?_
  refine lv_iconst (v := 4) hx hb dX7_init_39 (by decide) ?_
  refine va_newa (atype := .int) (ty := .int) (a0 := (4, .inl (fun _ => 0))) (N' := 4) hx hb harr rfl hK.1 hP hD hS hA (new_i 4) (nI_pos (n := 4) (by omega)) (nI_clamp (n := 4) (by omega)) (Nat.le_of_ble_eq_true rfl) (Nat.le_of_ble_eq_true rfl) (Nat.le_of_ble_eq_true rfl) dX7_init_40 (fun q40 cA H hK2 hP hD hS => ?_)
  have hcA : cA = cI := arr_same hK2
  subst cA
  have hP : va_P D vwCl [(h, .inr (5, [.ref q7, .ref q15, .int 1, .ref q28, .int 1, .null, .null, .int 0, .null, .int 0, .int 0, .int 0, .null, .long 0, .long 0, .long 0])), (q7, .inl (cI, 6, .inl (fun _ => 0))), (q15, .inl (cI, 96, .inl (fun _ => 0))), (q28, .inl (cI, 24, .inl (fun _ => 0))), (q40, .inl (cI, 4, .inl (fun _ => 0)))] H := hP
  have hD : va_D A [(h, .inr (5, [.ref q7, .ref q15, .int 1, .ref q28, .int 1, .null, .null, .int 0, .null, .int 0, .int 0, .int 0, .null, .long 0, .long 0, .long 0])), (q7, .inl (cI, 6, .inl (fun _ => 0))), (q15, .inl (cI, 96, .inl (fun _ => 0))), (q28, .inl (cI, 24, .inl (fun _ => 0))), (q40, .inl (cI, 4, .inl (fun _ => 0)))] := hD
  refine W.widen (k := 4) (n := 130) (by omega) (by omega) ?_
  refine va_putF (D := D) (ci := 5) (v := .ref q40) (ty := .array .int) (C := RX7) (T := TX7) (N := 16) hx hb hts hinX7 tyX7 tyX7_ok nmX7 hown hK.1 hP hD hS 0 rfl rfl 5 (by decide) hf26 (fun _ h9 => h9) rfl hin rfl (by decide +kernel) rfl rfl (Nat.le_of_ble_eq_true rfl) dX7_init_42 (fun H locs hP hD hS => ?_)
  have hP : va_P D vwCl [(h, .inr (5, [.ref q7, .ref q15, .int 1, .ref q28, .int 1, .ref q40, .null, .int 0, .null, .int 0, .int 0, .int 0, .null, .long 0, .long 0, .long 0])), (q7, .inl (cI, 6, .inl (fun _ => 0))), (q15, .inl (cI, 96, .inl (fun _ => 0))), (q28, .inl (cI, 24, .inl (fun _ => 0))), (q40, .inl (cI, 4, .inl (fun _ => 0)))] H := hP
  have hD : va_D A [(h, .inr (5, [.ref q7, .ref q15, .int 1, .ref q28, .int 1, .ref q40, .null, .int 0, .null, .int 0, .int 0, .int 0, .null, .long 0, .long 0, .long 0])), (q7, .inl (cI, 6, .inl (fun _ => 0))), (q15, .inl (cI, 96, .inl (fun _ => 0))), (q28, .inl (cI, 24, .inl (fun _ => 0))), (q40, .inl (cI, 4, .inl (fun _ => 0)))] := hD
  refine lv_aload_n hx hb dX7_init_45 rfl (lv_at hl 0 rfl) ?_
  refine lv_iconst (v := 4) hx hb dX7_init_46 (by decide) ?_
  refine va_newa (atype := .int) (ty := .int) (a0 := (4, .inl (fun _ => 0))) (N' := 4) hx hb harr rfl hK.1 hP hD hS hA (new_i 4) (nI_pos (n := 4) (by omega)) (nI_clamp (n := 4) (by omega)) (Nat.le_of_ble_eq_true rfl) (Nat.le_of_ble_eq_true rfl) (Nat.le_of_ble_eq_true rfl) dX7_init_47 (fun q47 cA H hK2 hP hD hS => ?_)
  have hcA : cA = cI := arr_same hK2
  subst cA
  have hP : va_P D vwCl [(h, .inr (5, [.ref q7, .ref q15, .int 1, .ref q28, .int 1, .ref q40, .null, .int 0, .null, .int 0, .int 0, .int 0, .null, .long 0, .long 0, .long 0])), (q7, .inl (cI, 6, .inl (fun _ => 0))), (q15, .inl (cI, 96, .inl (fun _ => 0))), (q28, .inl (cI, 24, .inl (fun _ => 0))), (q40, .inl (cI, 4, .inl (fun _ => 0))), (q47, .inl (cI, 4, .inl (fun _ => 0)))] H := hP
  have hD : va_D A [(h, .inr (5, [.ref q7, .ref q15, .int 1, .ref q28, .int 1, .ref q40, .null, .int 0, .null, .int 0, .int 0, .int 0, .null, .long 0, .long 0, .long 0])), (q7, .inl (cI, 6, .inl (fun _ => 0))), (q15, .inl (cI, 96, .inl (fun _ => 0))), (q28, .inl (cI, 24, .inl (fun _ => 0))), (q40, .inl (cI, 4, .inl (fun _ => 0))), (q47, .inl (cI, 4, .inl (fun _ => 0)))] := hD
  refine W.widen (k := 5) (n := 134) (by omega) (by omega) ?_
  refine va_putF (D := D) (ci := 5) (v := .ref q47) (ty := .array .int) (C := RX7) (T := TX7) (N := 16) hx hb hts hinX7 tyX7 tyX7_ok nmX7 hown hK.1 hP hD hS 0 rfl rfl 6 (by decide) hf29 (fun _ h9 => h9) rfl hin rfl (by decide +kernel) rfl rfl (Nat.le_of_ble_eq_true rfl) dX7_init_49 (fun H locs hP hD hS => ?_)
  have hP : va_P D vwCl [(h, .inr (5, [.ref q7, .ref q15, .int 1, .ref q28, .int 1, .ref q40, .ref q47, .int 0, .null, .int 0, .int 0, .int 0, .null, .long 0, .long 0, .long 0])), (q7, .inl (cI, 6, .inl (fun _ => 0))), (q15, .inl (cI, 96, .inl (fun _ => 0))), (q28, .inl (cI, 24, .inl (fun _ => 0))), (q40, .inl (cI, 4, .inl (fun _ => 0))), (q47, .inl (cI, 4, .inl (fun _ => 0)))] H := hP
  have hD : va_D A [(h, .inr (5, [.ref q7, .ref q15, .int 1, .ref q28, .int 1, .ref q40, .ref q47, .int 0, .null, .int 0, .int 0, .int 0, .null, .long 0, .long 0, .long 0])), (q7, .inl (cI, 6, .inl (fun _ => 0))), (q15, .inl (cI, 96, .inl (fun _ => 0))), (q28, .inl (cI, 24, .inl (fun _ => 0))), (q40, .inl (cI, 4, .inl (fun _ => 0))), (q47, .inl (cI, 4, .inl (fun _ => 0)))] := hD
  refine lv_aload_n hx hb dX7_init_52 rfl (lv_at hl 0 rfl) ?_
  refine lv_bipush (v := 64) hx hb dX7_init_53 (by decide) ?_
  refine va_newa (atype := .int) (ty := .int) (a0 := (64, .inl (fun _ => 0))) (N' := 64) hx hb harr rfl hK.1 hP hD hS hA (new_i 64) (nI_pos (n := 64) (by omega)) (nI_clamp (n := 64) (by omega)) (Nat.le_of_ble_eq_true rfl) (Nat.le_of_ble_eq_true rfl) (Nat.le_of_ble_eq_true rfl) dX7_init_55 (fun q55 cA H hK2 hP hD hS => ?_)
  have hcA : cA = cI := arr_same hK2
  subst cA
  have hP : va_P D vwCl [(h, .inr (5, [.ref q7, .ref q15, .int 1, .ref q28, .int 1, .ref q40, .ref q47, .int 0, .null, .int 0, .int 0, .int 0, .null, .long 0, .long 0, .long 0])), (q7, .inl (cI, 6, .inl (fun _ => 0))), (q15, .inl (cI, 96, .inl (fun _ => 0))), (q28, .inl (cI, 24, .inl (fun _ => 0))), (q40, .inl (cI, 4, .inl (fun _ => 0))), (q47, .inl (cI, 4, .inl (fun _ => 0))), (q55, .inl (cI, 64, .inl (fun _ => 0)))] H := hP
  have hD : va_D A [(h, .inr (5, [.ref q7, .ref q15, .int 1, .ref q28, .int 1, .ref q40, .ref q47, .int 0, .null, .int 0, .int 0, .int 0, .null, .long 0, .long 0, .long 0])), (q7, .inl (cI, 6, .inl (fun _ => 0))), (q15, .inl (cI, 96, .inl (fun _ => 0))), (q28, .inl (cI, 24, .inl (fun _ => 0))), (q40, .inl (cI, 4, .inl (fun _ => 0))), (q47, .inl (cI, 4, .inl (fun _ => 0))), (q55, .inl (cI, 64, .inl (fun _ => 0)))] := hD
  refine W.widen (k := 6) (n := 198) (by omega) (by omega) ?_
  refine va_putF (D := D) (ci := 5) (v := .ref q55) (ty := .array .int) (C := RX7) (T := TX7) (N := 16) hx hb hts hinX7 tyX7 tyX7_ok nmX7 hown hK.1 hP hD hS 0 rfl rfl 8 (by decide) hf32 (fun _ h9 => h9) rfl hin rfl (by decide +kernel) rfl rfl (Nat.le_of_ble_eq_true rfl) dX7_init_57 (fun H locs hP hD hS => ?_)
  have hP : va_P D vwCl [(h, .inr (5, [.ref q7, .ref q15, .int 1, .ref q28, .int 1, .ref q40, .ref q47, .int 0, .ref q55, .int 0, .int 0, .int 0, .null, .long 0, .long 0, .long 0])), (q7, .inl (cI, 6, .inl (fun _ => 0))), (q15, .inl (cI, 96, .inl (fun _ => 0))), (q28, .inl (cI, 24, .inl (fun _ => 0))), (q40, .inl (cI, 4, .inl (fun _ => 0))), (q47, .inl (cI, 4, .inl (fun _ => 0))), (q55, .inl (cI, 64, .inl (fun _ => 0)))] H := hP
  have hD : va_D A [(h, .inr (5, [.ref q7, .ref q15, .int 1, .ref q28, .int 1, .ref q40, .ref q47, .int 0, .ref q55, .int 0, .int 0, .int 0, .null, .long 0, .long 0, .long 0])), (q7, .inl (cI, 6, .inl (fun _ => 0))), (q15, .inl (cI, 96, .inl (fun _ => 0))), (q28, .inl (cI, 24, .inl (fun _ => 0))), (q40, .inl (cI, 4, .inl (fun _ => 0))), (q47, .inl (cI, 4, .inl (fun _ => 0))), (q55, .inl (cI, 64, .inl (fun _ => 0)))] := hD
  refine lv_aload_n hx hb dX7_init_60 rfl (lv_at hl 0 rfl) ?_
  refine lv_bipush (v := 16) hx hb dX7_init_61 (by decide) ?_
  refine va_newa (atype := .int) (ty := .int) (a0 := (16, .inl (fun _ => 0))) (N' := 16) hx hb harr rfl hK.1 hP hD hS hA (new_i 16) (nI_pos (n := 16) (by omega)) (nI_clamp (n := 16) (by omega)) (Nat.le_of_ble_eq_true rfl) (Nat.le_of_ble_eq_true rfl) (Nat.le_of_ble_eq_true rfl) dX7_init_63 (fun q63 cA H hK2 hP hD hS => ?_)
  have hcA : cA = cI := arr_same hK2
  subst cA
  have hP : va_P D vwCl [(h, .inr (5, [.ref q7, .ref q15, .int 1, .ref q28, .int 1, .ref q40, .ref q47, .int 0, .ref q55, .int 0, .int 0, .int 0, .null, .long 0, .long 0, .long 0])), (q7, .inl (cI, 6, .inl (fun _ => 0))), (q15, .inl (cI, 96, .inl (fun _ => 0))), (q28, .inl (cI, 24, .inl (fun _ => 0))), (q40, .inl (cI, 4, .inl (fun _ => 0))), (q47, .inl (cI, 4, .inl (fun _ => 0))), (q55, .inl (cI, 64, .inl (fun _ => 0))), (q63, .inl (cI, 16, .inl (fun _ => 0)))] H := hP
  have hD : va_D A [(h, .inr (5, [.ref q7, .ref q15, .int 1, .ref q28, .int 1, .ref q40, .ref q47, .int 0, .ref q55, .int 0, .int 0, .int 0, .null, .long 0, .long 0, .long 0])), (q7, .inl (cI, 6, .inl (fun _ => 0))), (q15, .inl (cI, 96, .inl (fun _ => 0))), (q28, .inl (cI, 24, .inl (fun _ => 0))), (q40, .inl (cI, 4, .inl (fun _ => 0))), (q47, .inl (cI, 4, .inl (fun _ => 0))), (q55, .inl (cI, 64, .inl (fun _ => 0))), (q63, .inl (cI, 16, .inl (fun _ => 0)))] := hD
  refine W.widen (k := 7) (n := 214) (by omega) (by omega) ?_
  refine va_putF (D := D) (ci := 5) (v := .ref q63) (ty := .array .int) (C := RX7) (T := TX7) (N := 16) hx hb hts hinX7 tyX7 tyX7_ok nmX7 hown hK.1 hP hD hS 0 rfl rfl 12 (by decide) hf35 (fun _ h9 => h9) rfl hin rfl (by decide +kernel) rfl rfl (Nat.le_of_ble_eq_true rfl) dX7_init_65 (fun H locs hP hD hS => ?_)
  have hP : va_P D vwCl [(h, .inr (5, [.ref q7, .ref q15, .int 1, .ref q28, .int 1, .ref q40, .ref q47, .int 0, .ref q55, .int 0, .int 0, .int 0, .ref q63, .long 0, .long 0, .long 0])), (q7, .inl (cI, 6, .inl (fun _ => 0))), (q15, .inl (cI, 96, .inl (fun _ => 0))), (q28, .inl (cI, 24, .inl (fun _ => 0))), (q40, .inl (cI, 4, .inl (fun _ => 0))), (q47, .inl (cI, 4, .inl (fun _ => 0))), (q55, .inl (cI, 64, .inl (fun _ => 0))), (q63, .inl (cI, 16, .inl (fun _ => 0)))] H := hP
  have hD : va_D A [(h, .inr (5, [.ref q7, .ref q15, .int 1, .ref q28, .int 1, .ref q40, .ref q47, .int 0, .ref q55, .int 0, .int 0, .int 0, .ref q63, .long 0, .long 0, .long 0])), (q7, .inl (cI, 6, .inl (fun _ => 0))), (q15, .inl (cI, 96, .inl (fun _ => 0))), (q28, .inl (cI, 24, .inl (fun _ => 0))), (q40, .inl (cI, 4, .inl (fun _ => 0))), (q47, .inl (cI, 4, .inl (fun _ => 0))), (q55, .inl (cI, 64, .inl (fun _ => 0))), (q63, .inl (cI, 16, .inl (fun _ => 0)))] := hD
  refine lv_iconst (v := 0) hx hb dX7_init_68 (by decide) ?_
  refine lv_istore_n (lv' := [(1, .int 0), (0, .ref h)]) hx hb dX7_init_69 rfl hl (by decide) rfl (fun ls hl => ?_)
  refine lv_iload_n hx hb dX7_init_70 rfl (lv_at hl 0 rfl) ?_
  refine lv_bipush (v := 6) hx hb dX7_init_71 (by decide) ?_
  refine lv_icmp_ge (tgt := 89) hx hb dX7_init_73 (by decide) (fun c73 => ?_) (fun c73 => ?_)
  · exact False.elim (absurd c73 (by decide))
  refine lv_aload_n hx hb dX7_init_76 rfl (lv_at hl 1 rfl) ?_
  refine va_get (D := D) (ci := 5) (v := .ref q7) (C := RX7) (T := TX7) (N := 16) hx hb hts hinX7 hown hK.1 hP 0 rfl rfl 0 (by decide) hf7 (fun _ h9 => h9) rfl dX7_init_77 ?_
  refine lv_iload_n hx hb dX7_init_80 rfl (lv_at hl 0 rfl) ?_
  refine lv_iconst (v := 1) hx hb dX7_init_81 (by decide) ?_
  refine w_ast hx hb hK hP hD hS 1 0 rfl rfl (0) rfl (by decide) (by decide) dX7_init_82 (fun H locs hP hD hS => ?_)
  have hP : va_P D vwCl [(h, .inr (5, [.ref q7, .ref q15, .int 1, .ref q28, .int 1, .ref q40, .ref q47, .int 0, .ref q55, .int 0, .int 0, .int 0, .ref q63, .long 0, .long 0, .long 0])), (q7, .inl (cI, 6, .inl (upd (fun _ => 0) 0 1))), (q15, .inl (cI, 96, .inl (fun _ => 0))), (q28, .inl (cI, 24, .inl (fun _ => 0))), (q40, .inl (cI, 4, .inl (fun _ => 0))), (q47, .inl (cI, 4, .inl (fun _ => 0))), (q55, .inl (cI, 64, .inl (fun _ => 0))), (q63, .inl (cI, 16, .inl (fun _ => 0)))] H := hP
  have hD : va_D A [(h, .inr (5, [.ref q7, .ref q15, .int 1, .ref q28, .int 1, .ref q40, .ref q47, .int 0, .ref q55, .int 0, .int 0, .int 0, .ref q63, .long 0, .long 0, .long 0])), (q7, .inl (cI, 6, .inl (upd (fun _ => 0) 0 1))), (q15, .inl (cI, 96, .inl (fun _ => 0))), (q28, .inl (cI, 24, .inl (fun _ => 0))), (q40, .inl (cI, 4, .inl (fun _ => 0))), (q47, .inl (cI, 4, .inl (fun _ => 0))), (q55, .inl (cI, 64, .inl (fun _ => 0))), (q63, .inl (cI, 16, .inl (fun _ => 0)))] := hD
  refine lv_iinc (v := 1) (lv' := [(1, .int 1), (0, .ref h)]) hx hb dX7_init_83 hl (k := 0) rfl (by decide) (by decide) rfl (fun ls hl => ?_)
  refine lv_goto (tgt := 70) hx hb dX7_init_86 (by decide) ?_
  refine lv_iload_n hx hb dX7_init_70 rfl (lv_at hl 0 rfl) ?_
  refine lv_bipush (v := 6) hx hb dX7_init_71 (by decide) ?_
  refine lv_icmp_ge (tgt := 89) hx hb dX7_init_73 (by decide) (fun c73 => ?_) (fun c73 => ?_)
  · exact False.elim (absurd c73 (by decide))
  refine lv_aload_n hx hb dX7_init_76 rfl (lv_at hl 1 rfl) ?_
  refine va_get (D := D) (ci := 5) (v := .ref q7) (C := RX7) (T := TX7) (N := 16) hx hb hts hinX7 hown hK.1 hP 0 rfl rfl 0 (by decide) hf7 (fun _ h9 => h9) rfl dX7_init_77 ?_
  refine lv_iload_n hx hb dX7_init_80 rfl (lv_at hl 0 rfl) ?_
  refine lv_iconst (v := 1) hx hb dX7_init_81 (by decide) ?_
  refine w_ast hx hb hK hP hD hS 1 0 rfl rfl (1) rfl (by decide) (by decide) dX7_init_82 (fun H locs hP hD hS => ?_)
  have hP : va_P D vwCl [(h, .inr (5, [.ref q7, .ref q15, .int 1, .ref q28, .int 1, .ref q40, .ref q47, .int 0, .ref q55, .int 0, .int 0, .int 0, .ref q63, .long 0, .long 0, .long 0])), (q7, .inl (cI, 6, .inl (upd (upd (fun _ => 0) 0 1) 1 1))), (q15, .inl (cI, 96, .inl (fun _ => 0))), (q28, .inl (cI, 24, .inl (fun _ => 0))), (q40, .inl (cI, 4, .inl (fun _ => 0))), (q47, .inl (cI, 4, .inl (fun _ => 0))), (q55, .inl (cI, 64, .inl (fun _ => 0))), (q63, .inl (cI, 16, .inl (fun _ => 0)))] H := hP
  have hD : va_D A [(h, .inr (5, [.ref q7, .ref q15, .int 1, .ref q28, .int 1, .ref q40, .ref q47, .int 0, .ref q55, .int 0, .int 0, .int 0, .ref q63, .long 0, .long 0, .long 0])), (q7, .inl (cI, 6, .inl (upd (upd (fun _ => 0) 0 1) 1 1))), (q15, .inl (cI, 96, .inl (fun _ => 0))), (q28, .inl (cI, 24, .inl (fun _ => 0))), (q40, .inl (cI, 4, .inl (fun _ => 0))), (q47, .inl (cI, 4, .inl (fun _ => 0))), (q55, .inl (cI, 64, .inl (fun _ => 0))), (q63, .inl (cI, 16, .inl (fun _ => 0)))] := hD
  refine lv_iinc (v := 2) (lv' := [(1, .int 2), (0, .ref h)]) hx hb dX7_init_83 hl (k := 0) rfl (by decide) (by decide) rfl (fun ls hl => ?_)
  refine lv_goto (tgt := 70) hx hb dX7_init_86 (by decide) ?_
  refine lv_iload_n hx hb dX7_init_70 rfl (lv_at hl 0 rfl) ?_
  refine lv_bipush (v := 6) hx hb dX7_init_71 (by decide) ?_
  refine lv_icmp_ge (tgt := 89) hx hb dX7_init_73 (by decide) (fun c73 => ?_) (fun c73 => ?_)
  · exact False.elim (absurd c73 (by decide))
  refine lv_aload_n hx hb dX7_init_76 rfl (lv_at hl 1 rfl) ?_
  refine va_get (D := D) (ci := 5) (v := .ref q7) (C := RX7) (T := TX7) (N := 16) hx hb hts hinX7 hown hK.1 hP 0 rfl rfl 0 (by decide) hf7 (fun _ h9 => h9) rfl dX7_init_77 ?_
  refine lv_iload_n hx hb dX7_init_80 rfl (lv_at hl 0 rfl) ?_
  refine lv_iconst (v := 1) hx hb dX7_init_81 (by decide) ?_
  refine w_ast hx hb hK hP hD hS 1 0 rfl rfl (2) rfl (by decide) (by decide) dX7_init_82 (fun H locs hP hD hS => ?_)
  have hP : va_P D vwCl [(h, .inr (5, [.ref q7, .ref q15, .int 1, .ref q28, .int 1, .ref q40, .ref q47, .int 0, .ref q55, .int 0, .int 0, .int 0, .ref q63, .long 0, .long 0, .long 0])), (q7, .inl (cI, 6, .inl (upd (upd (upd (fun _ => 0) 0 1) 1 1) 2 1))), (q15, .inl (cI, 96, .inl (fun _ => 0))), (q28, .inl (cI, 24, .inl (fun _ => 0))), (q40, .inl (cI, 4, .inl (fun _ => 0))), (q47, .inl (cI, 4, .inl (fun _ => 0))), (q55, .inl (cI, 64, .inl (fun _ => 0))), (q63, .inl (cI, 16, .inl (fun _ => 0)))] H := hP
  have hD : va_D A [(h, .inr (5, [.ref q7, .ref q15, .int 1, .ref q28, .int 1, .ref q40, .ref q47, .int 0, .ref q55, .int 0, .int 0, .int 0, .ref q63, .long 0, .long 0, .long 0])), (q7, .inl (cI, 6, .inl (upd (upd (upd (fun _ => 0) 0 1) 1 1) 2 1))), (q15, .inl (cI, 96, .inl (fun _ => 0))), (q28, .inl (cI, 24, .inl (fun _ => 0))), (q40, .inl (cI, 4, .inl (fun _ => 0))), (q47, .inl (cI, 4, .inl (fun _ => 0))), (q55, .inl (cI, 64, .inl (fun _ => 0))), (q63, .inl (cI, 16, .inl (fun _ => 0)))] := hD
  refine lv_iinc (v := 3) (lv' := [(1, .int 3), (0, .ref h)]) hx hb dX7_init_83 hl (k := 0) rfl (by decide) (by decide) rfl (fun ls hl => ?_)
  refine lv_goto (tgt := 70) hx hb dX7_init_86 (by decide) ?_
  refine lv_iload_n hx hb dX7_init_70 rfl (lv_at hl 0 rfl) ?_
  refine lv_bipush (v := 6) hx hb dX7_init_71 (by decide) ?_
  refine lv_icmp_ge (tgt := 89) hx hb dX7_init_73 (by decide) (fun c73 => ?_) (fun c73 => ?_)
  · exact False.elim (absurd c73 (by decide))
  refine lv_aload_n hx hb dX7_init_76 rfl (lv_at hl 1 rfl) ?_
  refine va_get (D := D) (ci := 5) (v := .ref q7) (C := RX7) (T := TX7) (N := 16) hx hb hts hinX7 hown hK.1 hP 0 rfl rfl 0 (by decide) hf7 (fun _ h9 => h9) rfl dX7_init_77 ?_
  refine lv_iload_n hx hb dX7_init_80 rfl (lv_at hl 0 rfl) ?_
  refine lv_iconst (v := 1) hx hb dX7_init_81 (by decide) ?_
  refine w_ast hx hb hK hP hD hS 1 0 rfl rfl (3) rfl (by decide) (by decide) dX7_init_82 (fun H locs hP hD hS => ?_)
  have hP : va_P D vwCl [(h, .inr (5, [.ref q7, .ref q15, .int 1, .ref q28, .int 1, .ref q40, .ref q47, .int 0, .ref q55, .int 0, .int 0, .int 0, .ref q63, .long 0, .long 0, .long 0])), (q7, .inl (cI, 6, .inl (upd (upd (upd (upd (fun _ => 0) 0 1) 1 1) 2 1) 3 1))), (q15, .inl (cI, 96, .inl (fun _ => 0))), (q28, .inl (cI, 24, .inl (fun _ => 0))), (q40, .inl (cI, 4, .inl (fun _ => 0))), (q47, .inl (cI, 4, .inl (fun _ => 0))), (q55, .inl (cI, 64, .inl (fun _ => 0))), (q63, .inl (cI, 16, .inl (fun _ => 0)))] H := hP
  have hD : va_D A [(h, .inr (5, [.ref q7, .ref q15, .int 1, .ref q28, .int 1, .ref q40, .ref q47, .int 0, .ref q55, .int 0, .int 0, .int 0, .ref q63, .long 0, .long 0, .long 0])), (q7, .inl (cI, 6, .inl (upd (upd (upd (upd (fun _ => 0) 0 1) 1 1) 2 1) 3 1))), (q15, .inl (cI, 96, .inl (fun _ => 0))), (q28, .inl (cI, 24, .inl (fun _ => 0))), (q40, .inl (cI, 4, .inl (fun _ => 0))), (q47, .inl (cI, 4, .inl (fun _ => 0))), (q55, .inl (cI, 64, .inl (fun _ => 0))), (q63, .inl (cI, 16, .inl (fun _ => 0)))] := hD
  refine lv_iinc (v := 4) (lv' := [(1, .int 4), (0, .ref h)]) hx hb dX7_init_83 hl (k := 0) rfl (by decide) (by decide) rfl (fun ls hl => ?_)
  refine lv_goto (tgt := 70) hx hb dX7_init_86 (by decide) ?_
  refine lv_iload_n hx hb dX7_init_70 rfl (lv_at hl 0 rfl) ?_
  refine lv_bipush (v := 6) hx hb dX7_init_71 (by decide) ?_
  refine lv_icmp_ge (tgt := 89) hx hb dX7_init_73 (by decide) (fun c73 => ?_) (fun c73 => ?_)
  · exact False.elim (absurd c73 (by decide))
  refine lv_aload_n hx hb dX7_init_76 rfl (lv_at hl 1 rfl) ?_
  refine va_get (D := D) (ci := 5) (v := .ref q7) (C := RX7) (T := TX7) (N := 16) hx hb hts hinX7 hown hK.1 hP 0 rfl rfl 0 (by decide) hf7 (fun _ h9 => h9) rfl dX7_init_77 ?_
  refine lv_iload_n hx hb dX7_init_80 rfl (lv_at hl 0 rfl) ?_
  refine lv_iconst (v := 1) hx hb dX7_init_81 (by decide) ?_
  refine w_ast hx hb hK hP hD hS 1 0 rfl rfl (4) rfl (by decide) (by decide) dX7_init_82 (fun H locs hP hD hS => ?_)
  have hP : va_P D vwCl [(h, .inr (5, [.ref q7, .ref q15, .int 1, .ref q28, .int 1, .ref q40, .ref q47, .int 0, .ref q55, .int 0, .int 0, .int 0, .ref q63, .long 0, .long 0, .long 0])), (q7, .inl (cI, 6, .inl (upd (upd (upd (upd (upd (fun _ => 0) 0 1) 1 1) 2 1) 3 1) 4 1))), (q15, .inl (cI, 96, .inl (fun _ => 0))), (q28, .inl (cI, 24, .inl (fun _ => 0))), (q40, .inl (cI, 4, .inl (fun _ => 0))), (q47, .inl (cI, 4, .inl (fun _ => 0))), (q55, .inl (cI, 64, .inl (fun _ => 0))), (q63, .inl (cI, 16, .inl (fun _ => 0)))] H := hP
  have hD : va_D A [(h, .inr (5, [.ref q7, .ref q15, .int 1, .ref q28, .int 1, .ref q40, .ref q47, .int 0, .ref q55, .int 0, .int 0, .int 0, .ref q63, .long 0, .long 0, .long 0])), (q7, .inl (cI, 6, .inl (upd (upd (upd (upd (upd (fun _ => 0) 0 1) 1 1) 2 1) 3 1) 4 1))), (q15, .inl (cI, 96, .inl (fun _ => 0))), (q28, .inl (cI, 24, .inl (fun _ => 0))), (q40, .inl (cI, 4, .inl (fun _ => 0))), (q47, .inl (cI, 4, .inl (fun _ => 0))), (q55, .inl (cI, 64, .inl (fun _ => 0))), (q63, .inl (cI, 16, .inl (fun _ => 0)))] := hD
  refine lv_iinc (v := 5) (lv' := [(1, .int 5), (0, .ref h)]) hx hb dX7_init_83 hl (k := 0) rfl (by decide) (by decide) rfl (fun ls hl => ?_)
  refine lv_goto (tgt := 70) hx hb dX7_init_86 (by decide) ?_
  refine lv_iload_n hx hb dX7_init_70 rfl (lv_at hl 0 rfl) ?_
  refine lv_bipush (v := 6) hx hb dX7_init_71 (by decide) ?_
  refine lv_icmp_ge (tgt := 89) hx hb dX7_init_73 (by decide) (fun c73 => ?_) (fun c73 => ?_)
  · exact False.elim (absurd c73 (by decide))
  refine lv_aload_n hx hb dX7_init_76 rfl (lv_at hl 1 rfl) ?_
  refine va_get (D := D) (ci := 5) (v := .ref q7) (C := RX7) (T := TX7) (N := 16) hx hb hts hinX7 hown hK.1 hP 0 rfl rfl 0 (by decide) hf7 (fun _ h9 => h9) rfl dX7_init_77 ?_
  refine lv_iload_n hx hb dX7_init_80 rfl (lv_at hl 0 rfl) ?_
  refine lv_iconst (v := 1) hx hb dX7_init_81 (by decide) ?_
  refine w_ast hx hb hK hP hD hS 1 0 rfl rfl (5) rfl (by decide) (by decide) dX7_init_82 (fun H locs hP hD hS => ?_)
  have hP : va_P D vwCl [(h, .inr (5, [.ref q7, .ref q15, .int 1, .ref q28, .int 1, .ref q40, .ref q47, .int 0, .ref q55, .int 0, .int 0, .int 0, .ref q63, .long 0, .long 0, .long 0])), (q7, .inl (cI, 6, .inl (upd (upd (upd (upd (upd (upd (fun _ => 0) 0 1) 1 1) 2 1) 3 1) 4 1) 5 1))), (q15, .inl (cI, 96, .inl (fun _ => 0))), (q28, .inl (cI, 24, .inl (fun _ => 0))), (q40, .inl (cI, 4, .inl (fun _ => 0))), (q47, .inl (cI, 4, .inl (fun _ => 0))), (q55, .inl (cI, 64, .inl (fun _ => 0))), (q63, .inl (cI, 16, .inl (fun _ => 0)))] H := hP
  have hD : va_D A [(h, .inr (5, [.ref q7, .ref q15, .int 1, .ref q28, .int 1, .ref q40, .ref q47, .int 0, .ref q55, .int 0, .int 0, .int 0, .ref q63, .long 0, .long 0, .long 0])), (q7, .inl (cI, 6, .inl (upd (upd (upd (upd (upd (upd (fun _ => 0) 0 1) 1 1) 2 1) 3 1) 4 1) 5 1))), (q15, .inl (cI, 96, .inl (fun _ => 0))), (q28, .inl (cI, 24, .inl (fun _ => 0))), (q40, .inl (cI, 4, .inl (fun _ => 0))), (q47, .inl (cI, 4, .inl (fun _ => 0))), (q55, .inl (cI, 64, .inl (fun _ => 0))), (q63, .inl (cI, 16, .inl (fun _ => 0)))] := hD
  refine lv_iinc (v := 6) (lv' := [(1, .int 6), (0, .ref h)]) hx hb dX7_init_83 hl (k := 0) rfl (by decide) (by decide) rfl (fun ls hl => ?_)
  refine lv_goto (tgt := 70) hx hb dX7_init_86 (by decide) ?_
  refine lv_iload_n hx hb dX7_init_70 rfl (lv_at hl 0 rfl) ?_
  refine lv_bipush (v := 6) hx hb dX7_init_71 (by decide) ?_
  refine lv_icmp_ge (tgt := 89) hx hb dX7_init_73 (by decide) (fun c73 => ?_) (fun c73 => ?_)
  rotate_left
  · exact False.elim (c73 (by decide))
  refine lv_aload_n hx hb dX7_init_89 rfl (lv_at hl 1 rfl) ?_
  refine va_get (D := D) (ci := 5) (v := .ref q28) (C := RX7) (T := TX7) (N := 16) hx hb hts hinX7 hown hK.1 hP 0 rfl rfl 3 (by decide) hf20 (fun _ h9 => h9) rfl dX7_init_90 ?_
  refine lv_iconst (v := 0) hx hb dX7_init_93 (by decide) ?_
  refine lv_iconst (v := 1) hx hb dX7_init_94 (by decide) ?_
  refine w_ast hx hb hK hP hD hS 3 0 rfl rfl (0) rfl (by decide) (by decide) dX7_init_95 (fun H locs hP hD hS => ?_)
  have hP : va_P D vwCl [(h, .inr (5, [.ref q7, .ref q15, .int 1, .ref q28, .int 1, .ref q40, .ref q47, .int 0, .ref q55, .int 0, .int 0, .int 0, .ref q63, .long 0, .long 0, .long 0])), (q7, .inl (cI, 6, .inl (upd (upd (upd (upd (upd (upd (fun _ => 0) 0 1) 1 1) 2 1) 3 1) 4 1) 5 1))), (q15, .inl (cI, 96, .inl (fun _ => 0))), (q28, .inl (cI, 24, .inl (upd (fun _ => 0) 0 1))), (q40, .inl (cI, 4, .inl (fun _ => 0))), (q47, .inl (cI, 4, .inl (fun _ => 0))), (q55, .inl (cI, 64, .inl (fun _ => 0))), (q63, .inl (cI, 16, .inl (fun _ => 0)))] H := hP
  have hD : va_D A [(h, .inr (5, [.ref q7, .ref q15, .int 1, .ref q28, .int 1, .ref q40, .ref q47, .int 0, .ref q55, .int 0, .int 0, .int 0, .ref q63, .long 0, .long 0, .long 0])), (q7, .inl (cI, 6, .inl (upd (upd (upd (upd (upd (upd (fun _ => 0) 0 1) 1 1) 2 1) 3 1) 4 1) 5 1))), (q15, .inl (cI, 96, .inl (fun _ => 0))), (q28, .inl (cI, 24, .inl (upd (fun _ => 0) 0 1))), (q40, .inl (cI, 4, .inl (fun _ => 0))), (q47, .inl (cI, 4, .inl (fun _ => 0))), (q55, .inl (cI, 64, .inl (fun _ => 0))), (q63, .inl (cI, 16, .inl (fun _ => 0)))] := hD
  refine lv_aload_n hx hb dX7_init_96 rfl (lv_at hl 1 rfl) ?_
  refine va_get (D := D) (ci := 5) (v := .ref q40) (C := RX7) (T := TX7) (N := 16) hx hb hts hinX7 hown hK.1 hP 0 rfl rfl 5 (by decide) hf26 (fun _ h9 => h9) rfl dX7_init_97 ?_
  refine lv_iconst (v := 0) hx hb dX7_init_100 (by decide) ?_
  refine lv_iconst (v := 2) hx hb dX7_init_101 (by decide) ?_
  refine w_ast hx hb hK hP hD hS 4 0 rfl rfl (0) rfl (by decide) (by decide) dX7_init_102 (fun H locs hP hD hS => ?_)
  have hP : va_P D vwCl [(h, .inr (5, [.ref q7, .ref q15, .int 1, .ref q28, .int 1, .ref q40, .ref q47, .int 0, .ref q55, .int 0, .int 0, .int 0, .ref q63, .long 0, .long 0, .long 0])), (q7, .inl (cI, 6, .inl (upd (upd (upd (upd (upd (upd (fun _ => 0) 0 1) 1 1) 2 1) 3 1) 4 1) 5 1))), (q15, .inl (cI, 96, .inl (fun _ => 0))), (q28, .inl (cI, 24, .inl (upd (fun _ => 0) 0 1))), (q40, .inl (cI, 4, .inl (upd (fun _ => 0) 0 2))), (q47, .inl (cI, 4, .inl (fun _ => 0))), (q55, .inl (cI, 64, .inl (fun _ => 0))), (q63, .inl (cI, 16, .inl (fun _ => 0)))] H := hP
  have hD : va_D A [(h, .inr (5, [.ref q7, .ref q15, .int 1, .ref q28, .int 1, .ref q40, .ref q47, .int 0, .ref q55, .int 0, .int 0, .int 0, .ref q63, .long 0, .long 0, .long 0])), (q7, .inl (cI, 6, .inl (upd (upd (upd (upd (upd (upd (fun _ => 0) 0 1) 1 1) 2 1) 3 1) 4 1) 5 1))), (q15, .inl (cI, 96, .inl (fun _ => 0))), (q28, .inl (cI, 24, .inl (upd (fun _ => 0) 0 1))), (q40, .inl (cI, 4, .inl (upd (fun _ => 0) 0 2))), (q47, .inl (cI, 4, .inl (fun _ => 0))), (q55, .inl (cI, 64, .inl (fun _ => 0))), (q63, .inl (cI, 16, .inl (fun _ => 0)))] := hD
  refine lv_aload_n hx hb dX7_init_103 rfl (lv_at hl 1 rfl) ?_
  refine va_get (D := D) (ci := 5) (v := .ref q47) (C := RX7) (T := TX7) (N := 16) hx hb hts hinX7 hown hK.1 hP 0 rfl rfl 6 (by decide) hf29 (fun _ h9 => h9) rfl dX7_init_104 ?_
  refine lv_iconst (v := 0) hx hb dX7_init_107 (by decide) ?_
  refine lv_iconst (v := (-1)) hx hb dX7_init_108 (by decide) ?_
  refine w_ast hx hb hK hP hD hS 5 0 rfl rfl (0) rfl (by decide) (by decide) dX7_init_109 (fun H locs hP hD hS => ?_)
  have hP : va_P D vwCl [(h, .inr (5, [.ref q7, .ref q15, .int 1, .ref q28, .int 1, .ref q40, .ref q47, .int 0, .ref q55, .int 0, .int 0, .int 0, .ref q63, .long 0, .long 0, .long 0])), (q7, .inl (cI, 6, .inl (upd (upd (upd (upd (upd (upd (fun _ => 0) 0 1) 1 1) 2 1) 3 1) 4 1) 5 1))), (q15, .inl (cI, 96, .inl (fun _ => 0))), (q28, .inl (cI, 24, .inl (upd (fun _ => 0) 0 1))), (q40, .inl (cI, 4, .inl (upd (fun _ => 0) 0 2))), (q47, .inl (cI, 4, .inl (upd (fun _ => 0) 0 (-1)))), (q55, .inl (cI, 64, .inl (fun _ => 0))), (q63, .inl (cI, 16, .inl (fun _ => 0)))] H := hP
  have hD : va_D A [(h, .inr (5, [.ref q7, .ref q15, .int 1, .ref q28, .int 1, .ref q40, .ref q47, .int 0, .ref q55, .int 0, .int 0, .int 0, .ref q63, .long 0, .long 0, .long 0])), (q7, .inl (cI, 6, .inl (upd (upd (upd (upd (upd (upd (fun _ => 0) 0 1) 1 1) 2 1) 3 1) 4 1) 5 1))), (q15, .inl (cI, 96, .inl (fun _ => 0))), (q28, .inl (cI, 24, .inl (upd (fun _ => 0) 0 1))), (q40, .inl (cI, 4, .inl (upd (fun _ => 0) 0 2))), (q47, .inl (cI, 4, .inl (upd (fun _ => 0) 0 (-1)))), (q55, .inl (cI, 64, .inl (fun _ => 0))), (q63, .inl (cI, 16, .inl (fun _ => 0)))] := hD
  subst hQ
  exact W.vret hx hb hr (fun u9 ht hW => ⟨⟨(), rfl, trivial, q7, q15, q28, q40, q47, q55, q63, by rw [← ht] at hP; exact hP, hD⟩, hS.F ht⟩) hS.2.2 dX7_init_110
