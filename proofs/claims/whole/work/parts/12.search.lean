theorem shl1_tab : ∀ n : Fin 13, 1 ≤ n.val → (1 : Int32) <<< ((nI n.val - 1) &&& 31) = nI (2 ^ (n.val - 1)) := by decide
theorem shl1 {n : Nat} (h1 : 1 ≤ n) (h : n ≤ 12) : (1 : Int32) <<< ((nI n - 1) &&& 31) = nI (2 ^ (n - 1)) := shl1_tab ⟨n, by omega⟩ h1
theorem lg_ne {x : Int64} (h : ¬ lg_cmp x 0 = 0) : ¬ x = 0 := by
  intro e
  subst e
  exact h rfl
def fJ6_bitCount_0f7a4 (v : Int32) : Int32 := (((((((v - (((v.toUInt32 >>> ((1 : Int32).toUInt32 &&& Int32.toUInt32 31)).toInt32) &&& 1431655765)) &&& 858993459) + ((((v - (((v.toUInt32 >>> ((1 : Int32).toUInt32 &&& Int32.toUInt32 31)).toInt32) &&& 1431655765)).toUInt32 >>> ((2 : Int32).toUInt32 &&& Int32.toUInt32 31)).toInt32) &&& 858993459)) + (((((v - (((v.toUInt32 >>> ((1 : Int32).toUInt32 &&& Int32.toUInt32 31)).toInt32) &&& 1431655765)) &&& 858993459) + ((((v - (((v.toUInt32 >>> ((1 : Int32).toUInt32 &&& Int32.toUInt32 31)).toInt32) &&& 1431655765)).toUInt32 >>> ((2 : Int32).toUInt32 &&& Int32.toUInt32 31)).toInt32) &&& 858993459)).toUInt32 >>> ((4 : Int32).toUInt32 &&& Int32.toUInt32 31)).toInt32)) &&& 252645135) + (((((((v - (((v.toUInt32 >>> ((1 : Int32).toUInt32 &&& Int32.toUInt32 31)).toInt32) &&& 1431655765)) &&& 858993459) + ((((v - (((v.toUInt32 >>> ((1 : Int32).toUInt32 &&& Int32.toUInt32 31)).toInt32) &&& 1431655765)).toUInt32 >>> ((2 : Int32).toUInt32 &&& Int32.toUInt32 31)).toInt32) &&& 858993459)) + (((((v - (((v.toUInt32 >>> ((1 : Int32).toUInt32 &&& Int32.toUInt32 31)).toInt32) &&& 1431655765)) &&& 858993459) + ((((v - (((v.toUInt32 >>> ((1 : Int32).toUInt32 &&& Int32.toUInt32 31)).toInt32) &&& 1431655765)).toUInt32 >>> ((2 : Int32).toUInt32 &&& Int32.toUInt32 31)).toInt32) &&& 858993459)).toUInt32 >>> ((4 : Int32).toUInt32 &&& Int32.toUInt32 31)).toInt32)) &&& 252645135).toUInt32 >>> ((8 : Int32).toUInt32 &&& Int32.toUInt32 31)).toInt32)) + ((((((((v - (((v.toUInt32 >>> ((1 : Int32).toUInt32 &&& Int32.toUInt32 31)).toInt32) &&& 1431655765)) &&& 858993459) + ((((v - (((v.toUInt32 >>> ((1 : Int32).toUInt32 &&& Int32.toUInt32 31)).toInt32) &&& 1431655765)).toUInt32 >>> ((2 : Int32).toUInt32 &&& Int32.toUInt32 31)).toInt32) &&& 858993459)) + (((((v - (((v.toUInt32 >>> ((1 : Int32).toUInt32 &&& Int32.toUInt32 31)).toInt32) &&& 1431655765)) &&& 858993459) + ((((v - (((v.toUInt32 >>> ((1 : Int32).toUInt32 &&& Int32.toUInt32 31)).toInt32) &&& 1431655765)).toUInt32 >>> ((2 : Int32).toUInt32 &&& Int32.toUInt32 31)).toInt32) &&& 858993459)).toUInt32 >>> ((4 : Int32).toUInt32 &&& Int32.toUInt32 31)).toInt32)) &&& 252645135) + (((((((v - (((v.toUInt32 >>> ((1 : Int32).toUInt32 &&& Int32.toUInt32 31)).toInt32) &&& 1431655765)) &&& 858993459) + ((((v - (((v.toUInt32 >>> ((1 : Int32).toUInt32 &&& Int32.toUInt32 31)).toInt32) &&& 1431655765)).toUInt32 >>> ((2 : Int32).toUInt32 &&& Int32.toUInt32 31)).toInt32) &&& 858993459)) + (((((v - (((v.toUInt32 >>> ((1 : Int32).toUInt32 &&& Int32.toUInt32 31)).toInt32) &&& 1431655765)) &&& 858993459) + ((((v - (((v.toUInt32 >>> ((1 : Int32).toUInt32 &&& Int32.toUInt32 31)).toInt32) &&& 1431655765)).toUInt32 >>> ((2 : Int32).toUInt32 &&& Int32.toUInt32 31)).toInt32) &&& 858993459)).toUInt32 >>> ((4 : Int32).toUInt32 &&& Int32.toUInt32 31)).toInt32)) &&& 252645135).toUInt32 >>> ((8 : Int32).toUInt32 &&& Int32.toUInt32 31)).toInt32)).toUInt32 >>> ((16 : Int32).toUInt32 &&& Int32.toUInt32 31)).toInt32)) &&& 63
abbrev rmJ6_bitCount_0f7a4 : Room := { frames := 0, cells := 0, slots := 0, locals := 0 }
set_option maxHeartbeats 4000000 in
set_option maxRecDepth 100000 in
theorem c_J6_bitCount_0f7a4 (l : Launch) (D : va_G) (cI : ClassId) (v : Int32)  : Met l yJ6_bitCount_0f7a4 wsJ6_bitCount_0f7a4 rmJ6_bitCount_0f7a4 (va_Pc [.int v] (roP D [(cI, .int)] [])) (vp_Si (fun r9 => r9 = fJ6_bitCount_0f7a4 v)) 0 0 (fun _ => False) := by
  generalize hF : fJ6_bitCount_0f7a4 v = T
  refine Met.ofW (cc := cJ6_bitCount_0f7a4) (maxL := 1) (ret := (some .int)) (by decide) rfl ?_
  intro p e s m args below meth c s₁ B hml hv
  obtain ⟨rfl, hP, hK⟩ := hv
  have hx := B.exec
  have hb := B.bytes
  have hr := B.returns
  have hts := atoms_spec (ws := wsJ6_bitCount_0f7a4) B.pre
  have hown : s.vm.findClass RJ6 = some m.cls := findClass_of_methodNamed B.named
  have hlocks := B.notSynchronized
  have hcst265 := hts (.constant RJ6 265 1431655765) (by decide +kernel)
  have hcst266 := hts (.constant RJ6 266 858993459) (by decide +kernel)
  have hcst267 := hts (.constant RJ6 267 252645135) (by decide +kernel)
  have hl := lv_entry ([.int v]) (n := 1) (Nat.le_of_ble_eq_true rfl)
  rw [lg_entry_eq]
  generalize (lg_sl ([.int v]) ++ List.replicate (1 - (lg_sl ([.int v])).length) Slot.unset).toArray = ls at hl ⊢
  refine w_Q (fun Q hQ => ?_)
  have hl : lv_has ls 1 [(0, .int v)] := hl
  rw [fJ6_bitCount_0f7a4] at hF
  refine lv_iload_n hx hb dJ6_bitCount_0f7a4_0 rfl (lv_at hl 0 rfl) ?_
  refine lv_iload_n hx hb dJ6_bitCount_0f7a4_1 rfl (lv_at hl 0 rfl) ?_
  refine lv_iconst (v := 1) hx hb dJ6_bitCount_0f7a4_2 (by decide) ?_
  refine lv_iushr hx hb dJ6_bitCount_0f7a4_3 rfl ?_
  refine lv_ldcw (v := 1431655765) hx hb hown hcst265 dJ6_bitCount_0f7a4_4 ?_
  refine lv_iand hx hb dJ6_bitCount_0f7a4_7 ?_
  refine lv_isub hx hb dJ6_bitCount_0f7a4_8 ?_
  refine lv_istore_n (lv' := [(0, .int (v - (((v.toUInt32 >>> ((1 : Int32).toUInt32 &&& Int32.toUInt32 31)).toInt32) &&& 1431655765)))]) hx hb dJ6_bitCount_0f7a4_9 rfl hl (by decide) rfl (fun ls hl => ?_)
  refine lv_iload_n hx hb dJ6_bitCount_0f7a4_10 rfl (lv_at hl 0 rfl) ?_
  refine lv_ldcw (v := 858993459) hx hb hown hcst266 dJ6_bitCount_0f7a4_11 ?_
  refine lv_iand hx hb dJ6_bitCount_0f7a4_14 ?_
  refine lv_iload_n hx hb dJ6_bitCount_0f7a4_15 rfl (lv_at hl 0 rfl) ?_
  refine lv_iconst (v := 2) hx hb dJ6_bitCount_0f7a4_16 (by decide) ?_
  refine lv_iushr hx hb dJ6_bitCount_0f7a4_17 rfl ?_
  refine lv_ldcw (v := 858993459) hx hb hown hcst266 dJ6_bitCount_0f7a4_18 ?_
  refine lv_iand hx hb dJ6_bitCount_0f7a4_21 ?_
  refine lv_iadd hx hb dJ6_bitCount_0f7a4_22 ?_
  refine lv_istore_n (lv' := [(0, .int (((v - (((v.toUInt32 >>> ((1 : Int32).toUInt32 &&& Int32.toUInt32 31)).toInt32) &&& 1431655765)) &&& 858993459) + ((((v - (((v.toUInt32 >>> ((1 : Int32).toUInt32 &&& Int32.toUInt32 31)).toInt32) &&& 1431655765)).toUInt32 >>> ((2 : Int32).toUInt32 &&& Int32.toUInt32 31)).toInt32) &&& 858993459)))]) hx hb dJ6_bitCount_0f7a4_23 rfl hl (by decide) rfl (fun ls hl => ?_)
  refine lv_iload_n hx hb dJ6_bitCount_0f7a4_24 rfl (lv_at hl 0 rfl) ?_
  refine lv_iload_n hx hb dJ6_bitCount_0f7a4_25 rfl (lv_at hl 0 rfl) ?_
  refine lv_iconst (v := 4) hx hb dJ6_bitCount_0f7a4_26 (by decide) ?_
  refine lv_iushr hx hb dJ6_bitCount_0f7a4_27 rfl ?_
  refine lv_iadd hx hb dJ6_bitCount_0f7a4_28 ?_
  refine lv_ldcw (v := 252645135) hx hb hown hcst267 dJ6_bitCount_0f7a4_29 ?_
  refine lv_iand hx hb dJ6_bitCount_0f7a4_32 ?_
  refine lv_istore_n (lv' := [(0, .int (((((v - (((v.toUInt32 >>> ((1 : Int32).toUInt32 &&& Int32.toUInt32 31)).toInt32) &&& 1431655765)) &&& 858993459) + ((((v - (((v.toUInt32 >>> ((1 : Int32).toUInt32 &&& Int32.toUInt32 31)).toInt32) &&& 1431655765)).toUInt32 >>> ((2 : Int32).toUInt32 &&& Int32.toUInt32 31)).toInt32) &&& 858993459)) + (((((v - (((v.toUInt32 >>> ((1 : Int32).toUInt32 &&& Int32.toUInt32 31)).toInt32) &&& 1431655765)) &&& 858993459) + ((((v - (((v.toUInt32 >>> ((1 : Int32).toUInt32 &&& Int32.toUInt32 31)).toInt32) &&& 1431655765)).toUInt32 >>> ((2 : Int32).toUInt32 &&& Int32.toUInt32 31)).toInt32) &&& 858993459)).toUInt32 >>> ((4 : Int32).toUInt32 &&& Int32.toUInt32 31)).toInt32)) &&& 252645135))]) hx hb dJ6_bitCount_0f7a4_33 rfl hl (by decide) rfl (fun ls hl => ?_)
  refine lv_iload_n hx hb dJ6_bitCount_0f7a4_34 rfl (lv_at hl 0 rfl) ?_
  refine lv_iload_n hx hb dJ6_bitCount_0f7a4_35 rfl (lv_at hl 0 rfl) ?_
  refine lv_bipush (v := 8) hx hb dJ6_bitCount_0f7a4_36 (by decide) ?_
  refine lv_iushr hx hb dJ6_bitCount_0f7a4_38 rfl ?_
  refine lv_iadd hx hb dJ6_bitCount_0f7a4_39 ?_
  refine lv_istore_n (lv' := [(0, .int ((((((v - (((v.toUInt32 >>> ((1 : Int32).toUInt32 &&& Int32.toUInt32 31)).toInt32) &&& 1431655765)) &&& 858993459) + ((((v - (((v.toUInt32 >>> ((1 : Int32).toUInt32 &&& Int32.toUInt32 31)).toInt32) &&& 1431655765)).toUInt32 >>> ((2 : Int32).toUInt32 &&& Int32.toUInt32 31)).toInt32) &&& 858993459)) + (((((v - (((v.toUInt32 >>> ((1 : Int32).toUInt32 &&& Int32.toUInt32 31)).toInt32) &&& 1431655765)) &&& 858993459) + ((((v - (((v.toUInt32 >>> ((1 : Int32).toUInt32 &&& Int32.toUInt32 31)).toInt32) &&& 1431655765)).toUInt32 >>> ((2 : Int32).toUInt32 &&& Int32.toUInt32 31)).toInt32) &&& 858993459)).toUInt32 >>> ((4 : Int32).toUInt32 &&& Int32.toUInt32 31)).toInt32)) &&& 252645135) + (((((((v - (((v.toUInt32 >>> ((1 : Int32).toUInt32 &&& Int32.toUInt32 31)).toInt32) &&& 1431655765)) &&& 858993459) + ((((v - (((v.toUInt32 >>> ((1 : Int32).toUInt32 &&& Int32.toUInt32 31)).toInt32) &&& 1431655765)).toUInt32 >>> ((2 : Int32).toUInt32 &&& Int32.toUInt32 31)).toInt32) &&& 858993459)) + (((((v - (((v.toUInt32 >>> ((1 : Int32).toUInt32 &&& Int32.toUInt32 31)).toInt32) &&& 1431655765)) &&& 858993459) + ((((v - (((v.toUInt32 >>> ((1 : Int32).toUInt32 &&& Int32.toUInt32 31)).toInt32) &&& 1431655765)).toUInt32 >>> ((2 : Int32).toUInt32 &&& Int32.toUInt32 31)).toInt32) &&& 858993459)).toUInt32 >>> ((4 : Int32).toUInt32 &&& Int32.toUInt32 31)).toInt32)) &&& 252645135).toUInt32 >>> ((8 : Int32).toUInt32 &&& Int32.toUInt32 31)).toInt32)))]) hx hb dJ6_bitCount_0f7a4_40 rfl hl (by decide) rfl (fun ls hl => ?_)
  refine lv_iload_n hx hb dJ6_bitCount_0f7a4_41 rfl (lv_at hl 0 rfl) ?_
  refine lv_iload_n hx hb dJ6_bitCount_0f7a4_42 rfl (lv_at hl 0 rfl) ?_
  refine lv_bipush (v := 16) hx hb dJ6_bitCount_0f7a4_43 (by decide) ?_
  refine lv_iushr hx hb dJ6_bitCount_0f7a4_45 rfl ?_
  refine lv_iadd hx hb dJ6_bitCount_0f7a4_46 ?_
  refine lv_istore_n (lv' := [(0, .int (((((((v - (((v.toUInt32 >>> ((1 : Int32).toUInt32 &&& Int32.toUInt32 31)).toInt32) &&& 1431655765)) &&& 858993459) + ((((v - (((v.toUInt32 >>> ((1 : Int32).toUInt32 &&& Int32.toUInt32 31)).toInt32) &&& 1431655765)).toUInt32 >>> ((2 : Int32).toUInt32 &&& Int32.toUInt32 31)).toInt32) &&& 858993459)) + (((((v - (((v.toUInt32 >>> ((1 : Int32).toUInt32 &&& Int32.toUInt32 31)).toInt32) &&& 1431655765)) &&& 858993459) + ((((v - (((v.toUInt32 >>> ((1 : Int32).toUInt32 &&& Int32.toUInt32 31)).toInt32) &&& 1431655765)).toUInt32 >>> ((2 : Int32).toUInt32 &&& Int32.toUInt32 31)).toInt32) &&& 858993459)).toUInt32 >>> ((4 : Int32).toUInt32 &&& Int32.toUInt32 31)).toInt32)) &&& 252645135) + (((((((v - (((v.toUInt32 >>> ((1 : Int32).toUInt32 &&& Int32.toUInt32 31)).toInt32) &&& 1431655765)) &&& 858993459) + ((((v - (((v.toUInt32 >>> ((1 : Int32).toUInt32 &&& Int32.toUInt32 31)).toInt32) &&& 1431655765)).toUInt32 >>> ((2 : Int32).toUInt32 &&& Int32.toUInt32 31)).toInt32) &&& 858993459)) + (((((v - (((v.toUInt32 >>> ((1 : Int32).toUInt32 &&& Int32.toUInt32 31)).toInt32) &&& 1431655765)) &&& 858993459) + ((((v - (((v.toUInt32 >>> ((1 : Int32).toUInt32 &&& Int32.toUInt32 31)).toInt32) &&& 1431655765)).toUInt32 >>> ((2 : Int32).toUInt32 &&& Int32.toUInt32 31)).toInt32) &&& 858993459)).toUInt32 >>> ((4 : Int32).toUInt32 &&& Int32.toUInt32 31)).toInt32)) &&& 252645135).toUInt32 >>> ((8 : Int32).toUInt32 &&& Int32.toUInt32 31)).toInt32)) + ((((((((v - (((v.toUInt32 >>> ((1 : Int32).toUInt32 &&& Int32.toUInt32 31)).toInt32) &&& 1431655765)) &&& 858993459) + ((((v - (((v.toUInt32 >>> ((1 : Int32).toUInt32 &&& Int32.toUInt32 31)).toInt32) &&& 1431655765)).toUInt32 >>> ((2 : Int32).toUInt32 &&& Int32.toUInt32 31)).toInt32) &&& 858993459)) + (((((v - (((v.toUInt32 >>> ((1 : Int32).toUInt32 &&& Int32.toUInt32 31)).toInt32) &&& 1431655765)) &&& 858993459) + ((((v - (((v.toUInt32 >>> ((1 : Int32).toUInt32 &&& Int32.toUInt32 31)).toInt32) &&& 1431655765)).toUInt32 >>> ((2 : Int32).toUInt32 &&& Int32.toUInt32 31)).toInt32) &&& 858993459)).toUInt32 >>> ((4 : Int32).toUInt32 &&& Int32.toUInt32 31)).toInt32)) &&& 252645135) + (((((((v - (((v.toUInt32 >>> ((1 : Int32).toUInt32 &&& Int32.toUInt32 31)).toInt32) &&& 1431655765)) &&& 858993459) + ((((v - (((v.toUInt32 >>> ((1 : Int32).toUInt32 &&& Int32.toUInt32 31)).toInt32) &&& 1431655765)).toUInt32 >>> ((2 : Int32).toUInt32 &&& Int32.toUInt32 31)).toInt32) &&& 858993459)) + (((((v - (((v.toUInt32 >>> ((1 : Int32).toUInt32 &&& Int32.toUInt32 31)).toInt32) &&& 1431655765)) &&& 858993459) + ((((v - (((v.toUInt32 >>> ((1 : Int32).toUInt32 &&& Int32.toUInt32 31)).toInt32) &&& 1431655765)).toUInt32 >>> ((2 : Int32).toUInt32 &&& Int32.toUInt32 31)).toInt32) &&& 858993459)).toUInt32 >>> ((4 : Int32).toUInt32 &&& Int32.toUInt32 31)).toInt32)) &&& 252645135).toUInt32 >>> ((8 : Int32).toUInt32 &&& Int32.toUInt32 31)).toInt32)).toUInt32 >>> ((16 : Int32).toUInt32 &&& Int32.toUInt32 31)).toInt32)))]) hx hb dJ6_bitCount_0f7a4_47 rfl hl (by decide) rfl (fun ls hl => ?_)
  refine lv_iload_n hx hb dJ6_bitCount_0f7a4_48 rfl (lv_at hl 0 rfl) ?_
  refine lv_bipush (v := 63) hx hb dJ6_bitCount_0f7a4_49 (by decide) ?_
  refine lv_iand hx hb dJ6_bitCount_0f7a4_51 ?_
  subst hQ
  exact W.iret (v := (((((((v - (((v.toUInt32 >>> ((1 : Int32).toUInt32 &&& Int32.toUInt32 31)).toInt32) &&& 1431655765)) &&& 858993459) + ((((v - (((v.toUInt32 >>> ((1 : Int32).toUInt32 &&& Int32.toUInt32 31)).toInt32) &&& 1431655765)).toUInt32 >>> ((2 : Int32).toUInt32 &&& Int32.toUInt32 31)).toInt32) &&& 858993459)) + (((((v - (((v.toUInt32 >>> ((1 : Int32).toUInt32 &&& Int32.toUInt32 31)).toInt32) &&& 1431655765)) &&& 858993459) + ((((v - (((v.toUInt32 >>> ((1 : Int32).toUInt32 &&& Int32.toUInt32 31)).toInt32) &&& 1431655765)).toUInt32 >>> ((2 : Int32).toUInt32 &&& Int32.toUInt32 31)).toInt32) &&& 858993459)).toUInt32 >>> ((4 : Int32).toUInt32 &&& Int32.toUInt32 31)).toInt32)) &&& 252645135) + (((((((v - (((v.toUInt32 >>> ((1 : Int32).toUInt32 &&& Int32.toUInt32 31)).toInt32) &&& 1431655765)) &&& 858993459) + ((((v - (((v.toUInt32 >>> ((1 : Int32).toUInt32 &&& Int32.toUInt32 31)).toInt32) &&& 1431655765)).toUInt32 >>> ((2 : Int32).toUInt32 &&& Int32.toUInt32 31)).toInt32) &&& 858993459)) + (((((v - (((v.toUInt32 >>> ((1 : Int32).toUInt32 &&& Int32.toUInt32 31)).toInt32) &&& 1431655765)) &&& 858993459) + ((((v - (((v.toUInt32 >>> ((1 : Int32).toUInt32 &&& Int32.toUInt32 31)).toInt32) &&& 1431655765)).toUInt32 >>> ((2 : Int32).toUInt32 &&& Int32.toUInt32 31)).toInt32) &&& 858993459)).toUInt32 >>> ((4 : Int32).toUInt32 &&& Int32.toUInt32 31)).toInt32)) &&& 252645135).toUInt32 >>> ((8 : Int32).toUInt32 &&& Int32.toUInt32 31)).toInt32)) + ((((((((v - (((v.toUInt32 >>> ((1 : Int32).toUInt32 &&& Int32.toUInt32 31)).toInt32) &&& 1431655765)) &&& 858993459) + ((((v - (((v.toUInt32 >>> ((1 : Int32).toUInt32 &&& Int32.toUInt32 31)).toInt32) &&& 1431655765)).toUInt32 >>> ((2 : Int32).toUInt32 &&& Int32.toUInt32 31)).toInt32) &&& 858993459)) + (((((v - (((v.toUInt32 >>> ((1 : Int32).toUInt32 &&& Int32.toUInt32 31)).toInt32) &&& 1431655765)) &&& 858993459) + ((((v - (((v.toUInt32 >>> ((1 : Int32).toUInt32 &&& Int32.toUInt32 31)).toInt32) &&& 1431655765)).toUInt32 >>> ((2 : Int32).toUInt32 &&& Int32.toUInt32 31)).toInt32) &&& 858993459)).toUInt32 >>> ((4 : Int32).toUInt32 &&& Int32.toUInt32 31)).toInt32)) &&& 252645135) + (((((((v - (((v.toUInt32 >>> ((1 : Int32).toUInt32 &&& Int32.toUInt32 31)).toInt32) &&& 1431655765)) &&& 858993459) + ((((v - (((v.toUInt32 >>> ((1 : Int32).toUInt32 &&& Int32.toUInt32 31)).toInt32) &&& 1431655765)).toUInt32 >>> ((2 : Int32).toUInt32 &&& Int32.toUInt32 31)).toInt32) &&& 858993459)) + (((((v - (((v.toUInt32 >>> ((1 : Int32).toUInt32 &&& Int32.toUInt32 31)).toInt32) &&& 1431655765)) &&& 858993459) + ((((v - (((v.toUInt32 >>> ((1 : Int32).toUInt32 &&& Int32.toUInt32 31)).toInt32) &&& 1431655765)).toUInt32 >>> ((2 : Int32).toUInt32 &&& Int32.toUInt32 31)).toInt32) &&& 858993459)).toUInt32 >>> ((4 : Int32).toUInt32 &&& Int32.toUInt32 31)).toInt32)) &&& 252645135).toUInt32 >>> ((8 : Int32).toUInt32 &&& Int32.toUInt32 31)).toInt32)).toUInt32 >>> ((16 : Int32).toUInt32 &&& Int32.toUInt32 31)).toInt32)) &&& 63) hx hb hr (fun u9 ht hW => ⟨_, rfl, hF, ht⟩) (fun q hq => by cases hq) dJ6_bitCount_0f7a4_52
def fX4_side (b : Int32) (nn : Int32) (lt : Int32) : Int32 := ((nn - lt) - (2 * (fJ6_bitCount_0f7a4 ((b ^^^ (b >>> (lt &&& 31))) &&& (((1 : Int32) <<< ((nn - lt) &&& 31)) - 1))))) * ((nn - lt) - (2 * (fJ6_bitCount_0f7a4 ((b ^^^ (b >>> (lt &&& 31))) &&& (((1 : Int32) <<< ((nn - lt) &&& 31)) - 1)))))
abbrev rmX4_side : Room := { frames := 1, cells := 0, slots := 0, locals := 20 }
set_option maxHeartbeats 4000000 in
set_option maxRecDepth 100000 in
theorem c_X4_side (l : Launch) (D : va_G) (cI : ClassId) (b : Int32) (nn : Int32) (lt : Int32)  : Met l yX4_side wsX4_side rmX4_side (va_Pc [.int b, .int nn, .int lt] (roP D [(cI, .int)] [])) (vp_Si (fun r9 => r9 = fX4_side b nn lt)) 0 0 (fun _ => False) := by
  generalize hF : fX4_side b nn lt = T
  refine Met.ofW (cc := cX4_side) (maxL := 6) (ret := (some .int)) (by decide) rfl ?_
  intro p e s m args below meth c s₁ B hml hv
  obtain ⟨rfl, hP, hK⟩ := hv
  have hx := B.exec
  have hb := B.bytes
  have hr := B.returns
  have hts := atoms_spec (ws := wsX4_side) B.pre
  have hown : s.vm.findClass RX4 = some m.cls := findClass_of_methodNamed B.named
  have hlocks := B.notSynchronized
  have hl := lv_entry ([.int b, .int nn, .int lt]) (n := 6) (Nat.le_of_ble_eq_true rfl)
  rw [lg_entry_eq]
  generalize (lg_sl ([.int b, .int nn, .int lt]) ++ List.replicate (6 - (lg_sl ([.int b, .int nn, .int lt])).length) Slot.unset).toArray = ls at hl ⊢
  refine w_Q (fun Q hQ => ?_)
  have hl : lv_has ls 6 [(0, .int b), (1, .int nn), (2, .int lt)] := hl
  rw [fX4_side] at hF
  refine lv_iload_n hx hb dX4_side_0 rfl (lv_at hl 1 rfl) ?_
  refine lv_iload_n hx hb dX4_side_1 rfl (lv_at hl 2 rfl) ?_
  refine lv_isub hx hb dX4_side_2 ?_
  refine lv_istore_n (lv' := [(3, .int (nn - lt)), (0, .int b), (1, .int nn), (2, .int lt)]) hx hb dX4_side_3 rfl hl (by decide) rfl (fun ls hl => ?_)
  refine lv_iload_n hx hb dX4_side_4 rfl (lv_at hl 1 rfl) ?_
  refine lv_iload_n hx hb dX4_side_5 rfl (lv_at hl 1 rfl) ?_
  refine lv_iload_n hx hb dX4_side_6 rfl (lv_at hl 3 rfl) ?_
  refine lv_ishr hx hb dX4_side_7 ?_
  refine lv_ixor hx hb dX4_side_8 ?_
  refine lv_iconst (v := 1) hx hb dX4_side_9 (by decide) ?_
  refine lv_iload_n hx hb dX4_side_10 rfl (lv_at hl 0 rfl) ?_
  refine lv_ishl hx hb dX4_side_11 ?_
  refine lv_iconst (v := 1) hx hb dX4_side_12 (by decide) ?_
  refine lv_isub hx hb dX4_side_13 ?_
  refine lv_iand hx hb dX4_side_14 ?_
  refine cs_i (va_runS (As := [.int ((b ^^^ (b >>> (lt &&& 31))) &&& (((1 : Int32) <<< ((nn - lt) &&& 31)) - 1))]) (rest := []) ⟨hx, hb, hml, hown, hts⟩ (c_J6_bitCount_0f7a4 l D cI ((b ^^^ (b >>> (lt &&& 31))) &&& (((1 : Int32) <<< ((nn - lt) &&& 31)) - 1)) ) (va_cwS 1 hts gX4_side_J6_bitCount_0f7a4 rfl rfl rfl (by decide +kernel) ⟨(Nat.le_of_ble_eq_true rfl), (Nat.le_of_ble_eq_true rfl)⟩) (ro_pre hP hK) rfl rfl hl.1 rfl (lv_room (Nat.le_of_ble_eq_true rfl)) dX4_side_15 ⟨Nat.zero_le _, Nat.zero_le _⟩) ?_
  refine lv_istore (lv' := [(4, .int (fJ6_bitCount_0f7a4 ((b ^^^ (b >>> (lt &&& 31))) &&& (((1 : Int32) <<< ((nn - lt) &&& 31)) - 1)))), (3, .int (nn - lt)), (0, .int b), (1, .int nn), (2, .int lt)]) hx hb dX4_side_18 hl (by decide) rfl (fun ls hl => ?_)
  refine lv_iload_n hx hb dX4_side_20 rfl (lv_at hl 1 rfl) ?_
  refine lv_iconst (v := 2) hx hb dX4_side_21 (by decide) ?_
  refine lv_iload hx hb dX4_side_22 (lv_at hl 0 rfl) ?_
  refine lv_imul hx hb dX4_side_24 ?_
  refine lv_isub hx hb dX4_side_25 ?_
  refine lv_istore (lv' := [(5, .int ((nn - lt) - (2 * (fJ6_bitCount_0f7a4 ((b ^^^ (b >>> (lt &&& 31))) &&& (((1 : Int32) <<< ((nn - lt) &&& 31)) - 1)))))), (4, .int (fJ6_bitCount_0f7a4 ((b ^^^ (b >>> (lt &&& 31))) &&& (((1 : Int32) <<< ((nn - lt) &&& 31)) - 1)))), (3, .int (nn - lt)), (0, .int b), (1, .int nn), (2, .int lt)]) hx hb dX4_side_26 hl (by decide) rfl (fun ls hl => ?_)
  refine lv_iload hx hb dX4_side_28 (lv_at hl 0 rfl) ?_
  refine lv_iload hx hb dX4_side_30 (lv_at hl 0 rfl) ?_
  refine lv_imul hx hb dX4_side_32 ?_
  subst hQ
  exact W.iret (v := ((nn - lt) - (2 * (fJ6_bitCount_0f7a4 ((b ^^^ (b >>> (lt &&& 31))) &&& (((1 : Int32) <<< ((nn - lt) &&& 31)) - 1))))) * ((nn - lt) - (2 * (fJ6_bitCount_0f7a4 ((b ^^^ (b >>> (lt &&& 31))) &&& (((1 : Int32) <<< ((nn - lt) &&& 31)) - 1)))))) hx hb hr (fun u9 ht hW => ⟨_, rfl, hF, ht⟩) (fun q hq => by cases hq) dX4_side_33
def F_X4_flankOf_4 (b : Int32) (n : Nat) : Nat → Nat → Int32 → Int32
  | 0, k4, x2 => x2
  | r4 + 1, k4, x2 => F_X4_flankOf_4 b n r4 (k4 + 1) (x2 + (fX4_side b (nI n) (nI k4)))
def fX4_flankOf (b : Int32) (n : Nat) : Int32 := F_X4_flankOf_4 b n (n - 1) 1 0
abbrev rmX4_flankOf : Room := { frames := 2, cells := 0, slots := 0, locals := 45 }
set_option maxHeartbeats 4000000 in
set_option maxRecDepth 100000 in
theorem c_X4_flankOf (l : Launch) (D : va_G) (cI : ClassId) (b : Int32) (n : Nat) (hn : n ≤ 16) : Met l yX4_flankOf wsX4_flankOf rmX4_flankOf (va_Pc [.int b, .int (nI n)] (roP D [(cI, .int)] [])) (vp_Si (fun r9 => r9 = fX4_flankOf b n)) 0 0 (fun _ => False) := by
  generalize hF : fX4_flankOf b n = T
  refine Met.ofW (cc := cX4_flankOf) (maxL := 4) (ret := (some .int)) (by decide) rfl ?_
  intro p e s m args below meth c s₁ B hml hv
  obtain ⟨rfl, hP, hK⟩ := hv
  have hx := B.exec
  have hb := B.bytes
  have hr := B.returns
  have hts := atoms_spec (ws := wsX4_flankOf) B.pre
  have hown : s.vm.findClass RX4 = some m.cls := findClass_of_methodNamed B.named
  have hlocks := B.notSynchronized
  have hl := lv_entry ([.int b, .int (nI n)]) (n := 4) (Nat.le_of_ble_eq_true rfl)
  rw [lg_entry_eq]
  generalize (lg_sl ([.int b, .int (nI n)]) ++ List.replicate (4 - (lg_sl ([.int b, .int (nI n)])).length) Slot.unset).toArray = ls at hl ⊢
  refine w_Q (fun Q hQ => ?_)
  have hl : lv_has ls 4 [(0, .int b), (1, .int (nI n))] := hl
  rw [fX4_flankOf] at hF
  refine lv_iconst (v := 0) hx hb dX4_flankOf_0 (by decide) ?_
  refine lv_istore_n (lv' := [(2, .int 0), (0, .int b), (1, .int (nI n))]) hx hb dX4_flankOf_1 rfl hl (by decide) rfl (fun ls hl => ?_)
  refine lv_iconst (v := 1) hx hb dX4_flankOf_2 (by decide) ?_
  refine lv_istore_n (lv' := [(3, .int 1), (2, .int 0), (0, .int b), (1, .int (nI n))]) hx hb dX4_flankOf_3 rfl hl (by decide) rfl (fun ls hl => ?_)
  have lp4 : ∀ (r4 k4 : Nat) (x2 : Int32) (ls : Array Slot), r4 = n - k4 → k4 ≤ n + 1 → lv_has ls 4 [(0, .int b), (1, .int (nI n)), (2, .int x2), (3, .int (nI k4))] → F_X4_flankOf_4 b n r4 k4 x2 = T → W p l e (headSpec wsX4_flankOf rmX4_flankOf).room s m ([.int b, .int (nI n)] : List Value).toArray below meth c s.heap [] 0 0 Q (F0 m 4 ls []) := by
    intro r4
    induction r4 with
    | zero =>
      intro k4 x2 ls hi4_0 hi4_1 hl hF
      rw [F_X4_flankOf_4] at hF
      refine lv_iload_n hx hb dX4_flankOf_4 rfl (lv_at hl 3 rfl) ?_
      refine lv_iload_n hx hb dX4_flankOf_5 rfl (lv_at hl 1 rfl) ?_
      refine lv_icmp_ge (tgt := 24) hx hb dX4_flankOf_6 (by decide) (fun c6 => ?_) (fun c6 => ?_)
      · skip
        refine lv_iload_n hx hb dX4_flankOf_24 rfl (lv_at hl 2 rfl) ?_
        subst hQ
        exact W.iret (v := x2) hx hb hr (fun u9 ht hW => ⟨_, rfl, hF, ht⟩) (fun q hq => by cases hq) dX4_flankOf_25
      · exact False.elim (c6 (nI_le (a := n) (b := k4) (by omega) (by omega)))
    | succ r4 ih4 =>
      intro k4 x2 ls hi4_0 hi4_1 hl hF
      rw [F_X4_flankOf_4] at hF
      refine lv_iload_n hx hb dX4_flankOf_4 rfl (lv_at hl 3 rfl) ?_
      refine lv_iload_n hx hb dX4_flankOf_5 rfl (lv_at hl 1 rfl) ?_
      refine lv_icmp_ge (tgt := 24) hx hb dX4_flankOf_6 (by decide) (fun c6 => ?_) (fun c6 => ?_)
      · exact False.elim (nI_ge (a := k4) (b := n) (by omega) (by omega) c6)
      · skip
        refine lv_iload_n hx hb dX4_flankOf_9 rfl (lv_at hl 2 rfl) ?_
        refine lv_iload_n hx hb dX4_flankOf_10 rfl (lv_at hl 0 rfl) ?_
        refine lv_iload_n hx hb dX4_flankOf_11 rfl (lv_at hl 1 rfl) ?_
        refine lv_iload_n hx hb dX4_flankOf_12 rfl (lv_at hl 3 rfl) ?_
        refine cs_i (va_runS (As := [.int b, .int (nI n), .int (nI k4)]) (rest := [.int x2]) ⟨hx, hb, hml, hown, hts⟩ (c_X4_side l D cI b (nI n) (nI k4) ) (va_cwS 3 hts gX4_flankOf_X4_side rfl rfl rfl (by decide +kernel) ⟨(Nat.le_of_ble_eq_true rfl), (Nat.le_of_ble_eq_true rfl)⟩) (ro_pre hP hK) rfl rfl hl.1 rfl (lv_room (Nat.le_of_ble_eq_true rfl)) dX4_flankOf_13 ⟨Nat.zero_le _, Nat.zero_le _⟩) ?_
        refine lv_iadd hx hb dX4_flankOf_16 ?_
        refine lv_istore_n (lv' := [(2, .int (x2 + (fX4_side b (nI n) (nI k4)))), (0, .int b), (1, .int (nI n)), (3, .int (nI k4))]) hx hb dX4_flankOf_17 rfl hl (by decide) rfl (fun ls hl => ?_)
        refine lv_iinc (v := nI (k4 + 1)) (lv' := [(3, .int (nI (k4 + 1))), (2, .int (x2 + (fX4_side b (nI n) (nI k4)))), (0, .int b), (1, .int (nI n))]) hx hb dX4_flankOf_18 hl (k := 3) rfl (nI_1 _) (by decide) rfl (fun ls hl => ?_)
        refine lv_goto (tgt := 4) hx hb dX4_flankOf_21 (by decide) ?_
        exact ih4 (k4 + 1) (x2 + (fX4_side b (nI n) (nI k4))) ls (by omega) (by omega)  (lv_sub hl [2, 3, 1, 0] rfl) hF
  exact lp4 (n - 1) 1 0 ls rfl (by omega)  (lv_sub hl [2, 3, 1, 0] rfl) hF
def F_X4_peakOf_5 (b : Int32) (n : Nat) (lm : Int32) : Nat → Nat → Int32 → Int32
  | 0, k5, x3 => x3
  | r5 + 1, k5, x3 => (if lm < x3 then x3 else F_X4_peakOf_5 b n lm r5 (k5 + 1) (if x3 < (fX4_side b (nI n) (nI k5)) then fX4_side b (nI n) (nI k5) else x3))
def fX4_peakOf (b : Int32) (n : Nat) (lm : Int32) : Int32 := F_X4_peakOf_5 b n lm (n - 1) 1 0
abbrev rmX4_peakOf : Room := { frames := 2, cells := 0, slots := 0, locals := 45 }
set_option maxHeartbeats 4000000 in
set_option maxRecDepth 100000 in
theorem c_X4_peakOf (l : Launch) (D : va_G) (cI : ClassId) (b : Int32) (n : Nat) (lm : Int32) (hn : n ≤ 16) : Met l yX4_peakOf wsX4_peakOf rmX4_peakOf (va_Pc [.int b, .int (nI n), .int lm] (roP D [(cI, .int)] [])) (vp_Si (fun r9 => r9 = fX4_peakOf b n lm)) 0 0 (fun _ => False) := by
  generalize hF : fX4_peakOf b n lm = T
  refine Met.ofW (cc := cX4_peakOf) (maxL := 5) (ret := (some .int)) (by decide) rfl ?_
  intro p e s m args below meth c s₁ B hml hv
  obtain ⟨rfl, hP, hK⟩ := hv
  have hx := B.exec
  have hb := B.bytes
  have hr := B.returns
  have hts := atoms_spec (ws := wsX4_peakOf) B.pre
  have hown : s.vm.findClass RX4 = some m.cls := findClass_of_methodNamed B.named
  have hlocks := B.notSynchronized
  have hml20 := hts (.methodLink RX4 20 Lib.Math.max.name) (by decide +kernel)
  have hst20 := hts (.static Lib.Math.max.name) (by decide +kernel)
  have hiM := hts (.initialized "java/lang/Math") (by decide +kernel)
  have hcd20 := hts (.code Lib.Math.max.name Lib.Math.max.code 2 (some .int)) (by decide +kernel)
  have hl := lv_entry ([.int b, .int (nI n), .int lm]) (n := 5) (Nat.le_of_ble_eq_true rfl)
  rw [lg_entry_eq]
  generalize (lg_sl ([.int b, .int (nI n), .int lm]) ++ List.replicate (5 - (lg_sl ([.int b, .int (nI n), .int lm])).length) Slot.unset).toArray = ls at hl ⊢
  refine w_Q (fun Q hQ => ?_)
  have hl : lv_has ls 5 [(0, .int b), (1, .int (nI n)), (2, .int lm)] := hl
  rw [fX4_peakOf] at hF
  refine lv_iconst (v := 0) hx hb dX4_peakOf_0 (by decide) ?_
  refine lv_istore_n (lv' := [(3, .int 0), (0, .int b), (1, .int (nI n)), (2, .int lm)]) hx hb dX4_peakOf_1 rfl hl (by decide) rfl (fun ls hl => ?_)
  refine lv_iconst (v := 1) hx hb dX4_peakOf_2 (by decide) ?_
  refine lv_istore (lv' := [(4, .int 1), (3, .int 0), (0, .int b), (1, .int (nI n)), (2, .int lm)]) hx hb dX4_peakOf_3 hl (by decide) rfl (fun ls hl => ?_)
  have lp5 : ∀ (r5 k5 : Nat) (x3 : Int32) (ls : Array Slot), r5 = n - k5 → k5 ≤ n + 1 → lv_has ls 5 [(0, .int b), (1, .int (nI n)), (2, .int lm), (3, .int x3), (4, .int (nI k5))] → F_X4_peakOf_5 b n lm r5 k5 x3 = T → W p l e (headSpec wsX4_peakOf rmX4_peakOf).room s m ([.int b, .int (nI n), .int lm] : List Value).toArray below meth c s.heap [] 0 0 Q (F0 m 5 ls []) := by
    intro r5
    induction r5 with
    | zero =>
      intro k5 x3 ls hi5_0 hi5_1 hl hF
      rw [F_X4_peakOf_5] at hF
      refine lv_iload hx hb dX4_peakOf_5 (lv_at hl 4 rfl) ?_
      refine lv_iload_n hx hb dX4_peakOf_7 rfl (lv_at hl 1 rfl) ?_
      refine lv_icmp_ge (tgt := 34) hx hb dX4_peakOf_8 (by decide) (fun c8 => ?_) (fun c8 => ?_)
      · skip
        refine lv_iload_n hx hb dX4_peakOf_34 rfl (lv_at hl 3 rfl) ?_
        subst hQ
        exact W.iret (v := x3) hx hb hr (fun u9 ht hW => ⟨_, rfl, hF, ht⟩) (fun q hq => by cases hq) dX4_peakOf_35
      · exact False.elim (c8 (nI_le (a := n) (b := k5) (by omega) (by omega)))
    | succ r5 ih5 =>
      intro k5 x3 ls hi5_0 hi5_1 hl hF
      rw [F_X4_peakOf_5] at hF
      refine lv_iload hx hb dX4_peakOf_5 (lv_at hl 4 rfl) ?_
      refine lv_iload_n hx hb dX4_peakOf_7 rfl (lv_at hl 1 rfl) ?_
      refine lv_icmp_ge (tgt := 34) hx hb dX4_peakOf_8 (by decide) (fun c8 => ?_) (fun c8 => ?_)
      · exact False.elim (nI_ge (a := k5) (b := n) (by omega) (by omega) c8)
      · skip
        refine lv_iload_n hx hb dX4_peakOf_11 rfl (lv_at hl 3 rfl) ?_
        refine lv_iload_n hx hb dX4_peakOf_12 rfl (lv_at hl 2 rfl) ?_
        refine lv_icmp_gt (tgt := 34) hx hb dX4_peakOf_13 (by decide) (fun c13 => ?_) (fun c13 => ?_)
        · rw [if_pos c13] at hF
          refine lv_iload_n hx hb dX4_peakOf_34 rfl (lv_at hl 3 rfl) ?_
          subst hQ
          exact W.iret (v := x3) hx hb hr (fun u9 ht hW => ⟨_, rfl, hF, ht⟩) (fun q hq => by cases hq) dX4_peakOf_35
        · rw [if_neg c13] at hF
          refine lv_iload_n hx hb dX4_peakOf_16 rfl (lv_at hl 3 rfl) ?_
          refine lv_iload_n hx hb dX4_peakOf_17 rfl (lv_at hl 0 rfl) ?_
          refine lv_iload_n hx hb dX4_peakOf_18 rfl (lv_at hl 1 rfl) ?_
          refine lv_iload hx hb dX4_peakOf_19 (lv_at hl 4 rfl) ?_
          refine cs_i (va_runS (As := [.int b, .int (nI n), .int (nI k5)]) (rest := [.int x3]) ⟨hx, hb, hml, hown, hts⟩ (c_X4_side l D cI b (nI n) (nI k5) ) (va_cwS 3 hts gX4_peakOf_X4_side rfl rfl rfl (by decide +kernel) ⟨(Nat.le_of_ble_eq_true rfl), (Nat.le_of_ble_eq_true rfl)⟩) (ro_pre hP hK) rfl rfl hl.1 rfl (lv_room (Nat.le_of_ble_eq_true rfl)) dX4_peakOf_21 ⟨Nat.zero_le _, Nat.zero_le _⟩) ?_
          refine va_mmax hx hb (by rw [hml]; exact hl.1.symm) hown hml20 hst20 hiM hcd20 (Nat.le_of_ble_eq_true rfl) (Nat.le_of_ble_eq_true rfl) (Nat.zero_le _) (Nat.zero_le _) dX4_peakOf_24 ?_
          refine lv_istore_n (lv' := [(3, .int (if x3 < (fX4_side b (nI n) (nI k5)) then fX4_side b (nI n) (nI k5) else x3)), (0, .int b), (1, .int (nI n)), (2, .int lm), (4, .int (nI k5))]) hx hb dX4_peakOf_27 rfl hl (by decide) rfl (fun ls hl => ?_)
          refine lv_iinc (v := nI (k5 + 1)) (lv' := [(4, .int (nI (k5 + 1))), (3, .int (if x3 < (fX4_side b (nI n) (nI k5)) then fX4_side b (nI n) (nI k5) else x3)), (0, .int b), (1, .int (nI n)), (2, .int lm)]) hx hb dX4_peakOf_28 hl (k := 4) rfl (nI_1 _) (by decide) rfl (fun ls hl => ?_)
          refine lv_goto (tgt := 5) hx hb dX4_peakOf_31 (by decide) ?_
          exact ih5 (k5 + 1) (if x3 < (fX4_side b (nI n) (nI k5)) then fX4_side b (nI n) (nI k5) else x3) ls (by omega) (by omega)  (lv_sub hl [2, 3, 4, 1, 0] rfl) hF
  exact lp5 (n - 1) 1 0 ls rfl (by omega)  (lv_sub hl [2, 3, 4, 1, 0] rfl) hF
def F_X4_leastSided_27 (n : Nat) : Nat → Nat → Int32 → Int32 → Int32 → Int32
  | 0, k27, x1, x2, x3 => x1
  | r27 + 1, k27, x1, x2, x3 => (if (fX4_peakOf (nI k27) n x2) ≤ x2 then (if (fX4_peakOf (nI k27) n x2) < x2 then F_X4_leastSided_27 n r27 (k27 + 1) (nI k27) (fX4_peakOf (nI k27) n x2) (fX4_flankOf (nI k27) n) else (if x3 ≤ (fX4_flankOf (nI k27) n) then F_X4_leastSided_27 n r27 (k27 + 1) x1 x2 x3 else F_X4_leastSided_27 n r27 (k27 + 1) (nI k27) (fX4_peakOf (nI k27) n x2) (fX4_flankOf (nI k27) n))) else F_X4_leastSided_27 n r27 (k27 + 1) x1 x2 x3)
def fX4_leastSided (n : Nat) : Int32 := F_X4_leastSided_27 n ((2 ^ (n - 1)) - 1) 1 0 (fX4_peakOf 0 n ((nI n) * (nI n))) (fX4_flankOf 0 n)
abbrev rmX4_leastSided : Room := { frames := 3, cells := 0, slots := 0, locals := 69 }
set_option maxHeartbeats 4000000 in
set_option maxRecDepth 100000 in
theorem c_X4_leastSided (l : Launch) (D : va_G) (cI : ClassId) (n : Nat) (hn1 : 1 ≤ n) (hn : n ≤ 12) : Met l yX4_leastSided wsX4_leastSided rmX4_leastSided (va_Pc [.int (nI n)] (roP D [(cI, .int)] [])) (vp_Si (fun r9 => r9 = fX4_leastSided n)) 0 0 (fun _ => False) := by
  generalize hF : fX4_leastSided n = T
  refine Met.ofW (cc := cX4_leastSided) (maxL := 8) (ret := (some .int)) (by decide) rfl ?_
  intro p e s m args below meth c s₁ B hml hv
  obtain ⟨rfl, hP, hK⟩ := hv
  have hx := B.exec
  have hb := B.bytes
  have hr := B.returns
  have hts := atoms_spec (ws := wsX4_leastSided) B.pre
  have hown : s.vm.findClass RX4 = some m.cls := findClass_of_methodNamed B.named
  have hlocks := B.notSynchronized
  have hl := lv_entry ([.int (nI n)]) (n := 8) (Nat.le_of_ble_eq_true rfl)
  rw [lg_entry_eq]
  generalize (lg_sl ([.int (nI n)]) ++ List.replicate (8 - (lg_sl ([.int (nI n)])).length) Slot.unset).toArray = ls at hl ⊢
  refine w_Q (fun Q hQ => ?_)
  have hpw : 2 ^ (n - 1) ≤ 2 ^ 11 := Nat.pow_le_pow_right (by omega) (by omega)
  have hl : lv_has ls 8 [(0, .int (nI n))] := hl
  rw [fX4_leastSided] at hF
  refine lv_iconst (v := 0) hx hb dX4_leastSided_0 (by decide) ?_
  refine lv_istore_n (lv' := [(1, .int 0), (0, .int (nI n))]) hx hb dX4_leastSided_1 rfl hl (by decide) rfl (fun ls hl => ?_)
  refine lv_iconst (v := 0) hx hb dX4_leastSided_2 (by decide) ?_
  refine lv_iload_n hx hb dX4_leastSided_3 rfl (lv_at hl 1 rfl) ?_
  refine lv_iload_n hx hb dX4_leastSided_4 rfl (lv_at hl 1 rfl) ?_
  refine lv_iload_n hx hb dX4_leastSided_5 rfl (lv_at hl 1 rfl) ?_
  refine lv_imul hx hb dX4_leastSided_6 ?_
  refine cs_i (va_runS (As := [.int 0, .int (nI n), .int ((nI n) * (nI n))]) (rest := []) ⟨hx, hb, hml, hown, hts⟩ (c_X4_peakOf l D cI 0 n ((nI n) * (nI n)) (by first | assumption | omega)) (va_cwS 3 hts gX4_leastSided_X4_peakOf rfl rfl rfl (by decide +kernel) ⟨(Nat.le_of_ble_eq_true rfl), (Nat.le_of_ble_eq_true rfl)⟩) (ro_pre hP hK) rfl rfl hl.1 rfl (lv_room (Nat.le_of_ble_eq_true rfl)) dX4_leastSided_7 ⟨Nat.zero_le _, Nat.zero_le _⟩) ?_
  refine lv_istore_n (lv' := [(2, .int (fX4_peakOf 0 n ((nI n) * (nI n)))), (1, .int 0), (0, .int (nI n))]) hx hb dX4_leastSided_10 rfl hl (by decide) rfl (fun ls hl => ?_)
  refine lv_iconst (v := 0) hx hb dX4_leastSided_11 (by decide) ?_
  refine lv_iload_n hx hb dX4_leastSided_12 rfl (lv_at hl 2 rfl) ?_
  refine cs_i (va_runS (As := [.int 0, .int (nI n)]) (rest := []) ⟨hx, hb, hml, hown, hts⟩ (c_X4_flankOf l D cI 0 n (by first | assumption | omega)) (va_cwS 2 hts gX4_leastSided_X4_flankOf rfl rfl rfl (by decide +kernel) ⟨(Nat.le_of_ble_eq_true rfl), (Nat.le_of_ble_eq_true rfl)⟩) (ro_pre hP hK) rfl rfl hl.1 rfl (lv_room (Nat.le_of_ble_eq_true rfl)) dX4_leastSided_13 ⟨Nat.zero_le _, Nat.zero_le _⟩) ?_
  refine lv_istore_n (lv' := [(3, .int (fX4_flankOf 0 n)), (2, .int (fX4_peakOf 0 n ((nI n) * (nI n)))), (1, .int 0), (0, .int (nI n))]) hx hb dX4_leastSided_16 rfl hl (by decide) rfl (fun ls hl => ?_)
  refine lv_iconst (v := 1) hx hb dX4_leastSided_17 (by decide) ?_
  refine lv_iload_n hx hb dX4_leastSided_18 rfl (lv_at hl 3 rfl) ?_
  refine lv_iconst (v := 1) hx hb dX4_leastSided_19 (by decide) ?_
  refine lv_isub hx hb dX4_leastSided_20 ?_
  refine lv_ishl hx hb dX4_leastSided_21 ?_
  refine lv_istore (lv' := [(4, .int ((1 : Int32) <<< (((nI n) - 1) &&& 31))), (3, .int (fX4_flankOf 0 n)), (2, .int (fX4_peakOf 0 n ((nI n) * (nI n)))), (1, .int 0), (0, .int (nI n))]) hx hb dX4_leastSided_22 hl (by decide) rfl (fun ls hl => ?_)
  refine lv_iconst (v := 1) hx hb dX4_leastSided_24 (by decide) ?_
  refine lv_istore (lv' := [(5, .int 1), (4, .int ((1 : Int32) <<< (((nI n) - 1) &&& 31))), (3, .int (fX4_flankOf 0 n)), (2, .int (fX4_peakOf 0 n ((nI n) * (nI n)))), (1, .int 0), (0, .int (nI n))]) hx hb dX4_leastSided_25 hl (by decide) rfl (fun ls hl => ?_)
  have lp27 : ∀ (r27 k27 : Nat) (x1 : Int32) (x2 : Int32) (x3 : Int32) (ls : Array Slot), r27 = (2 ^ (n - 1)) - k27 → k27 ≤ (2 ^ (n - 1)) + 1 → lv_has ls 8 [(0, .int (nI n)), (1, .int x1), (2, .int x2), (3, .int x3), (4, .int ((1 : Int32) <<< (((nI n) - 1) &&& 31))), (5, .int (nI k27))] → F_X4_leastSided_27 n r27 k27 x1 x2 x3 = T → W p l e (headSpec wsX4_leastSided rmX4_leastSided).room s m ([.int (nI n)] : List Value).toArray below meth c s.heap [] 0 0 Q (F0 m 27 ls []) := by
    intro r27
    induction r27 with
    | zero =>
      intro k27 x1 x2 x3 ls hi27_0 hi27_1 hl hF
      rw [F_X4_leastSided_27] at hF
      refine lv_iload hx hb dX4_leastSided_27 (lv_at hl 5 rfl) ?_
      refine lv_iload hx hb dX4_leastSided_29 (lv_at hl 4 rfl) ?_
      refine lv_icmp_ge (tgt := 87) hx hb dX4_leastSided_31 (by decide) (fun c31 => ?_) (fun c31 => ?_)
      · skip
        refine lv_iload_n hx hb dX4_leastSided_87 rfl (lv_at hl 1 rfl) ?_
        subst hQ
        exact W.iret (v := x1) hx hb hr (fun u9 ht hW => ⟨_, rfl, hF, ht⟩) (fun q hq => by cases hq) dX4_leastSided_88
      · exact False.elim (c31 (by rw [shl1 hn1 hn]; exact nI_le (by omega) (by omega)))
    | succ r27 ih27 =>
      intro k27 x1 x2 x3 ls hi27_0 hi27_1 hl hF
      rw [F_X4_leastSided_27] at hF
      refine lv_iload hx hb dX4_leastSided_27 (lv_at hl 5 rfl) ?_
      refine lv_iload hx hb dX4_leastSided_29 (lv_at hl 4 rfl) ?_
      refine lv_icmp_ge (tgt := 87) hx hb dX4_leastSided_31 (by decide) (fun c31 => ?_) (fun c31 => ?_)
      · exact False.elim ((by rw [shl1 hn1 hn] at c31; exact nI_ge (by omega) (by omega) c31))
      · skip
        refine lv_iload hx hb dX4_leastSided_34 (lv_at hl 5 rfl) ?_
        refine lv_iload_n hx hb dX4_leastSided_36 rfl (lv_at hl 0 rfl) ?_
        refine lv_iload_n hx hb dX4_leastSided_37 rfl (lv_at hl 2 rfl) ?_
        refine cs_i (va_runS (As := [.int (nI k27), .int (nI n), .int x2]) (rest := []) ⟨hx, hb, hml, hown, hts⟩ (c_X4_peakOf l D cI (nI k27) n x2 (by first | assumption | omega)) (va_cwS 3 hts gX4_leastSided_X4_peakOf rfl rfl rfl (by decide +kernel) ⟨(Nat.le_of_ble_eq_true rfl), (Nat.le_of_ble_eq_true rfl)⟩) (ro_pre hP hK) rfl rfl hl.1 rfl (lv_room (Nat.le_of_ble_eq_true rfl)) dX4_leastSided_38 ⟨Nat.zero_le _, Nat.zero_le _⟩) ?_
        refine lv_istore (lv' := [(6, .int (fX4_peakOf (nI k27) n x2)), (0, .int (nI n)), (1, .int x1), (2, .int x2), (3, .int x3), (4, .int ((1 : Int32) <<< (((nI n) - 1) &&& 31))), (5, .int (nI k27))]) hx hb dX4_leastSided_41 hl (by decide) rfl (fun ls hl => ?_)
        refine lv_iload hx hb dX4_leastSided_43 (lv_at hl 0 rfl) ?_
        refine lv_iload_n hx hb dX4_leastSided_45 rfl (lv_at hl 3 rfl) ?_
        refine lv_icmp_le (tgt := 52) hx hb dX4_leastSided_46 (by decide) (fun c46 => ?_) (fun c46 => ?_)
        · rw [if_pos c46] at hF
          refine lv_iload hx hb dX4_leastSided_52 (lv_at hl 6 rfl) ?_
          refine lv_iload_n hx hb dX4_leastSided_54 rfl (lv_at hl 1 rfl) ?_
          refine cs_i (va_runS (As := [.int (nI k27), .int (nI n)]) (rest := []) ⟨hx, hb, hml, hown, hts⟩ (c_X4_flankOf l D cI (nI k27) n (by first | assumption | omega)) (va_cwS 2 hts gX4_leastSided_X4_flankOf rfl rfl rfl (by decide +kernel) ⟨(Nat.le_of_ble_eq_true rfl), (Nat.le_of_ble_eq_true rfl)⟩) (ro_pre hP hK) rfl rfl hl.1 rfl (lv_room (Nat.le_of_ble_eq_true rfl)) dX4_leastSided_55 ⟨Nat.zero_le _, Nat.zero_le _⟩) ?_
          refine lv_istore (lv' := [(7, .int (fX4_flankOf (nI k27) n)), (6, .int (fX4_peakOf (nI k27) n x2)), (0, .int (nI n)), (1, .int x1), (2, .int x2), (3, .int x3), (4, .int ((1 : Int32) <<< (((nI n) - 1) &&& 31))), (5, .int (nI k27))]) hx hb dX4_leastSided_58 hl (by decide) rfl (fun ls hl => ?_)
          refine lv_iload hx hb dX4_leastSided_60 (lv_at hl 1 rfl) ?_
          refine lv_iload_n hx hb dX4_leastSided_62 rfl (lv_at hl 4 rfl) ?_
          refine lv_icmp_lt (tgt := 72) hx hb dX4_leastSided_63 (by decide) (fun c63 => ?_) (fun c63 => ?_)
          · rw [if_pos c63] at hF
            refine lv_iload hx hb dX4_leastSided_72 (lv_at hl 7 rfl) ?_
            refine lv_istore_n (lv' := [(1, .int (nI k27)), (7, .int (fX4_flankOf (nI k27) n)), (6, .int (fX4_peakOf (nI k27) n x2)), (0, .int (nI n)), (2, .int x2), (3, .int x3), (4, .int ((1 : Int32) <<< (((nI n) - 1) &&& 31))), (5, .int (nI k27))]) hx hb dX4_leastSided_74 rfl hl (by decide) rfl (fun ls hl => ?_)
            refine lv_iload hx hb dX4_leastSided_75 (lv_at hl 2 rfl) ?_
            refine lv_istore_n (lv' := [(2, .int (fX4_peakOf (nI k27) n x2)), (1, .int (nI k27)), (7, .int (fX4_flankOf (nI k27) n)), (6, .int (fX4_peakOf (nI k27) n x2)), (0, .int (nI n)), (3, .int x3), (4, .int ((1 : Int32) <<< (((nI n) - 1) &&& 31))), (5, .int (nI k27))]) hx hb dX4_leastSided_77 rfl hl (by decide) rfl (fun ls hl => ?_)
            refine lv_iload hx hb dX4_leastSided_78 (lv_at hl 2 rfl) ?_
            refine lv_istore_n (lv' := [(3, .int (fX4_flankOf (nI k27) n)), (2, .int (fX4_peakOf (nI k27) n x2)), (1, .int (nI k27)), (7, .int (fX4_flankOf (nI k27) n)), (6, .int (fX4_peakOf (nI k27) n x2)), (0, .int (nI n)), (4, .int ((1 : Int32) <<< (((nI n) - 1) &&& 31))), (5, .int (nI k27))]) hx hb dX4_leastSided_80 rfl hl (by decide) rfl (fun ls hl => ?_)
            refine lv_iinc (v := nI (k27 + 1)) (lv' := [(5, .int (nI (k27 + 1))), (3, .int (fX4_flankOf (nI k27) n)), (2, .int (fX4_peakOf (nI k27) n x2)), (1, .int (nI k27)), (7, .int (fX4_flankOf (nI k27) n)), (6, .int (fX4_peakOf (nI k27) n x2)), (0, .int (nI n)), (4, .int ((1 : Int32) <<< (((nI n) - 1) &&& 31)))]) hx hb dX4_leastSided_81 hl (k := 7) rfl (nI_1 _) (by decide) rfl (fun ls hl => ?_)
            refine lv_goto (tgt := 27) hx hb dX4_leastSided_84 (by decide) ?_
            exact ih27 (k27 + 1) (nI k27) (fX4_peakOf (nI k27) n x2) (fX4_flankOf (nI k27) n) ls (by omega) (by omega)  (lv_sub hl [6, 3, 2, 1, 7, 0] rfl) hF
          · rw [if_neg c63] at hF
            refine lv_iload hx hb dX4_leastSided_66 (lv_at hl 0 rfl) ?_
            refine lv_iload_n hx hb dX4_leastSided_68 rfl (lv_at hl 5 rfl) ?_
            refine lv_icmp_ge (tgt := 81) hx hb dX4_leastSided_69 (by decide) (fun c69 => ?_) (fun c69 => ?_)
            · rw [if_pos c69] at hF
              refine lv_iinc (v := nI (k27 + 1)) (lv' := [(5, .int (nI (k27 + 1))), (7, .int (fX4_flankOf (nI k27) n)), (6, .int (fX4_peakOf (nI k27) n x2)), (0, .int (nI n)), (1, .int x1), (2, .int x2), (3, .int x3), (4, .int ((1 : Int32) <<< (((nI n) - 1) &&& 31)))]) hx hb dX4_leastSided_81 hl (k := 7) rfl (nI_1 _) (by decide) rfl (fun ls hl => ?_)
              refine lv_goto (tgt := 27) hx hb dX4_leastSided_84 (by decide) ?_
              exact ih27 (k27 + 1) x1 x2 x3 ls (by omega) (by omega)  (lv_sub hl [3, 4, 5, 6, 7, 0] rfl) hF
            · rw [if_neg c69] at hF
              refine lv_iload hx hb dX4_leastSided_72 (lv_at hl 7 rfl) ?_
              refine lv_istore_n (lv' := [(1, .int (nI k27)), (7, .int (fX4_flankOf (nI k27) n)), (6, .int (fX4_peakOf (nI k27) n x2)), (0, .int (nI n)), (2, .int x2), (3, .int x3), (4, .int ((1 : Int32) <<< (((nI n) - 1) &&& 31))), (5, .int (nI k27))]) hx hb dX4_leastSided_74 rfl hl (by decide) rfl (fun ls hl => ?_)
              refine lv_iload hx hb dX4_leastSided_75 (lv_at hl 2 rfl) ?_
              refine lv_istore_n (lv' := [(2, .int (fX4_peakOf (nI k27) n x2)), (1, .int (nI k27)), (7, .int (fX4_flankOf (nI k27) n)), (6, .int (fX4_peakOf (nI k27) n x2)), (0, .int (nI n)), (3, .int x3), (4, .int ((1 : Int32) <<< (((nI n) - 1) &&& 31))), (5, .int (nI k27))]) hx hb dX4_leastSided_77 rfl hl (by decide) rfl (fun ls hl => ?_)
              refine lv_iload hx hb dX4_leastSided_78 (lv_at hl 2 rfl) ?_
              refine lv_istore_n (lv' := [(3, .int (fX4_flankOf (nI k27) n)), (2, .int (fX4_peakOf (nI k27) n x2)), (1, .int (nI k27)), (7, .int (fX4_flankOf (nI k27) n)), (6, .int (fX4_peakOf (nI k27) n x2)), (0, .int (nI n)), (4, .int ((1 : Int32) <<< (((nI n) - 1) &&& 31))), (5, .int (nI k27))]) hx hb dX4_leastSided_80 rfl hl (by decide) rfl (fun ls hl => ?_)
              refine lv_iinc (v := nI (k27 + 1)) (lv' := [(5, .int (nI (k27 + 1))), (3, .int (fX4_flankOf (nI k27) n)), (2, .int (fX4_peakOf (nI k27) n x2)), (1, .int (nI k27)), (7, .int (fX4_flankOf (nI k27) n)), (6, .int (fX4_peakOf (nI k27) n x2)), (0, .int (nI n)), (4, .int ((1 : Int32) <<< (((nI n) - 1) &&& 31)))]) hx hb dX4_leastSided_81 hl (k := 7) rfl (nI_1 _) (by decide) rfl (fun ls hl => ?_)
              refine lv_goto (tgt := 27) hx hb dX4_leastSided_84 (by decide) ?_
              exact ih27 (k27 + 1) (nI k27) (fX4_peakOf (nI k27) n x2) (fX4_flankOf (nI k27) n) ls (by omega) (by omega)  (lv_sub hl [6, 3, 2, 1, 7, 0] rfl) hF
        · rw [if_neg c46] at hF
          refine lv_goto (tgt := 81) hx hb dX4_leastSided_49 (by decide) ?_
          refine lv_iinc (v := nI (k27 + 1)) (lv' := [(5, .int (nI (k27 + 1))), (6, .int (fX4_peakOf (nI k27) n x2)), (0, .int (nI n)), (1, .int x1), (2, .int x2), (3, .int x3), (4, .int ((1 : Int32) <<< (((nI n) - 1) &&& 31)))]) hx hb dX4_leastSided_81 hl (k := 6) rfl (nI_1 _) (by decide) rfl (fun ls hl => ?_)
          refine lv_goto (tgt := 27) hx hb dX4_leastSided_84 (by decide) ?_
          exact ih27 (k27 + 1) x1 x2 x3 ls (by omega) (by omega)  (lv_sub hl [2, 3, 4, 5, 6, 0] rfl) hF
  exact lp27 ((2 ^ (n - 1)) - 1) 1 0 (fX4_peakOf 0 n ((nI n) * (nI n))) (fX4_flankOf 0 n) ls rfl (by have := Nat.zero_le (2 ^ (n - 1)); omega)  (lv_sub hl [5, 4, 3, 2, 1, 0] rfl) hF
def fX0_mayOrder (n : Int32) (k : Int32) : Int32 := (if (fX6_within n 1 8) = 0 then 0 else (if (fX6_within k 1 n) = 0 then 0 else 1))
abbrev rmX0_mayOrder : Room := { frames := 1, cells := 0, slots := 0, locals := 22 }
set_option maxHeartbeats 4000000 in
set_option maxRecDepth 100000 in
theorem c_X0_mayOrder (l : Launch) (D : va_G) (cI : ClassId) (n : Int32) (k : Int32)  : Met l yX0_mayOrder wsX0_mayOrder rmX0_mayOrder (va_Pc [.int n, .int k] (roP D [(cI, .int)] [])) (vp_Si (fun r9 => r9 = fX0_mayOrder n k)) 0 0 (fun _ => False) := by
  generalize hF : fX0_mayOrder n k = T
  refine Met.ofW (cc := cX0_mayOrder) (maxL := 2) (ret := (some .boolean)) (by decide) rfl ?_
  intro p e s m args below meth c s₁ B hml hv
  obtain ⟨rfl, hP, hK⟩ := hv
  have hx := B.exec
  have hb := B.bytes
  have hr := B.returns
  have hts := atoms_spec (ws := wsX0_mayOrder) B.pre
  have hown : s.vm.findClass RX0 = some m.cls := findClass_of_methodNamed B.named
  have hlocks := B.notSynchronized
  have hiniX6 := hts (.initialized RX6) (by decide +kernel)
  have hst_X6_within := hts (.static yX6_within) (by decide +kernel)
  have hl := lv_entry ([.int n, .int k]) (n := 2) (Nat.le_of_ble_eq_true rfl)
  rw [lg_entry_eq]
  generalize (lg_sl ([.int n, .int k]) ++ List.replicate (2 - (lg_sl ([.int n, .int k])).length) Slot.unset).toArray = ls at hl ⊢
  refine w_Q (fun Q hQ => ?_)
  have hl : lv_has ls 2 [(0, .int n), (1, .int k)] := hl
  rw [fX0_mayOrder] at hF
  refine lv_iload_n hx hb dX0_mayOrder_0 rfl (lv_at hl 0 rfl) ?_
  refine lv_iconst (v := 1) hx hb dX0_mayOrder_1 (by decide) ?_
  refine lv_bipush (v := 8) hx hb dX0_mayOrder_2 (by decide) ?_
  refine cs_i (va_runSN (As := [.int n, .int 1, .int 8]) (rest := []) ⟨hx, hb, hml, hown, hts⟩ (c_X6_within l D cI n 1 8 ) ⟨va_cnB 3 hts gX0_mayOrder_X6_within_n11 rfl rfl rfl hK.2.2.2.2.2.2.2.2.2 hiniX6 (by decide +kernel) ⟨(Nat.le_of_ble_eq_true rfl), (Nat.le_of_ble_eq_true rfl)⟩, hst_X6_within, trivial⟩ (ro_pre hP hK) rfl rfl hl.1 rfl (lv_room (Nat.le_of_ble_eq_true rfl)) dX0_mayOrder_4 ⟨Nat.zero_le _, Nat.zero_le _⟩) ?_
  refine lv_if_eq (tgt := 23) hx hb dX0_mayOrder_7 (by decide) (fun c7 => ?_) (fun c7 => ?_)
  · rw [if_pos c7] at hF
    refine lv_iconst (v := 0) hx hb dX0_mayOrder_23 (by decide) ?_
    subst hQ
    exact W.zret (v := 0) (ty := .boolean) hx hb hr rfl (fun u9 ht hW => ⟨_, rfl, hF, ht⟩) (fun q hq => by cases hq) dX0_mayOrder_24
  · rw [if_neg c7] at hF
    refine lv_iload_n hx hb dX0_mayOrder_10 rfl (lv_at hl 1 rfl) ?_
    refine lv_iconst (v := 1) hx hb dX0_mayOrder_11 (by decide) ?_
    refine lv_iload_n hx hb dX0_mayOrder_12 rfl (lv_at hl 0 rfl) ?_
    refine cs_i (va_runSN (As := [.int k, .int 1, .int n]) (rest := []) ⟨hx, hb, hml, hown, hts⟩ (c_X6_within l D cI k 1 n ) ⟨va_cnB 3 hts gX0_mayOrder_X6_within_n11 rfl rfl rfl hK.2.2.2.2.2.2.2.2.2 hiniX6 (by decide +kernel) ⟨(Nat.le_of_ble_eq_true rfl), (Nat.le_of_ble_eq_true rfl)⟩, hst_X6_within, trivial⟩ (ro_pre hP hK) rfl rfl hl.1 rfl (lv_room (Nat.le_of_ble_eq_true rfl)) dX0_mayOrder_13 ⟨Nat.zero_le _, Nat.zero_le _⟩) ?_
    refine lv_if_eq (tgt := 23) hx hb dX0_mayOrder_16 (by decide) (fun c16 => ?_) (fun c16 => ?_)
    · rw [if_pos c16] at hF
      refine lv_iconst (v := 0) hx hb dX0_mayOrder_23 (by decide) ?_
      subst hQ
      exact W.zret (v := 0) (ty := .boolean) hx hb hr rfl (fun u9 ht hW => ⟨_, rfl, hF, ht⟩) (fun q hq => by cases hq) dX0_mayOrder_24
    · rw [if_neg c16] at hF
      refine lv_iconst (v := 1) hx hb dX0_mayOrder_19 (by decide) ?_
      refine lv_goto (tgt := 24) hx hb dX0_mayOrder_20 (by decide) ?_
      subst hQ
      exact W.zret (v := 1) (ty := .boolean) hx hb hr rfl (fun u9 ht hW => ⟨_, rfl, hF, ht⟩) (fun q hq => by cases hq) dX0_mayOrder_24
def F_X0_product_5 (n : Int32) (mo : Int32) : Nat → Nat → Int64 → Int64
  | 0, k5, x3 => x3
  | r5 + 1, k5, x3 => F_X0_product_5 n mo r5 (k5 + 1) (x3 * (((n - (nI k5)) + mo).toInt64))
def fX0_product (n : Int32) (k : Nat) (mo : Int32) : Int64 := F_X0_product_5 n mo (k - 0) 0 1
abbrev rmX0_product : Room := { frames := 0, cells := 0, slots := 0, locals := 0 }
set_option maxHeartbeats 4000000 in
set_option maxRecDepth 100000 in
theorem c_X0_product (l : Launch) (D : va_G) (cI : ClassId) (n : Int32) (k : Nat) (mo : Int32) (hk : k ≤ 8) : Met l yX0_product wsX0_product rmX0_product (va_Pc [.int n, .int (nI k), .int mo] (roP D [(cI, .int)] [])) (vp_Sl (fun r9 => r9 = fX0_product n k mo)) 0 0 (fun _ => False) := by
  generalize hF : fX0_product n k mo = T
  refine Met.ofW (cc := cX0_product) (maxL := 6) (ret := (some .long)) (by decide) rfl ?_
  intro p e s m args below meth c s₁ B hml hv
  obtain ⟨rfl, hP, hK⟩ := hv
  have hx := B.exec
  have hb := B.bytes
  have hr := B.returns
  have hts := atoms_spec (ws := wsX0_product) B.pre
  have hown : s.vm.findClass RX0 = some m.cls := findClass_of_methodNamed B.named
  have hlocks := B.notSynchronized
  have hl := lv_entry ([.int n, .int (nI k), .int mo]) (n := 6) (Nat.le_of_ble_eq_true rfl)
  rw [lg_entry_eq]
  generalize (lg_sl ([.int n, .int (nI k), .int mo]) ++ List.replicate (6 - (lg_sl ([.int n, .int (nI k), .int mo])).length) Slot.unset).toArray = ls at hl ⊢
  refine w_Q (fun Q hQ => ?_)
  have hl : lv_has ls 6 [(0, .int n), (1, .int (nI k)), (2, .int mo)] := hl
  rw [fX0_product] at hF
  refine lv_lconst (v := 1) hx hb dX0_product_0 (by decide) ?_
  refine lv_lstore_n (lv' := [(3, .long 1), (0, .int n), (1, .int (nI k)), (2, .int mo)]) hx hb dX0_product_1 rfl hl (by decide) rfl (fun ls hl => ?_)
  refine lv_iconst (v := 0) hx hb dX0_product_2 (by decide) ?_
  refine lv_istore (lv' := [(5, .int 0), (3, .long 1), (0, .int n), (1, .int (nI k)), (2, .int mo)]) hx hb dX0_product_3 hl (by decide) rfl (fun ls hl => ?_)
  have lp5 : ∀ (r5 k5 : Nat) (x3 : Int64) (ls : Array Slot), r5 = k - k5 → k5 ≤ k + 1 → lv_has ls 6 [(0, .int n), (1, .int (nI k)), (2, .int mo), (3, .long x3), (5, .int (nI k5))] → F_X0_product_5 n mo r5 k5 x3 = T → W p l e (headSpec wsX0_product rmX0_product).room s m ([.int n, .int (nI k), .int mo] : List Value).toArray below meth c s.heap [] 0 0 Q (F0 m 5 ls []) := by
    intro r5
    induction r5 with
    | zero =>
      intro k5 x3 ls hi5_0 hi5_1 hl hF
      rw [F_X0_product_5] at hF
      refine lv_iload hx hb dX0_product_5 (lv_at hl 4 rfl) ?_
      refine lv_iload_n hx hb dX0_product_7 rfl (lv_at hl 1 rfl) ?_
      refine lv_icmp_ge (tgt := 27) hx hb dX0_product_8 (by decide) (fun c8 => ?_) (fun c8 => ?_)
      · skip
        refine lv_lload_n hx hb dX0_product_27 rfl (lv_at hl 3 rfl) ?_
        subst hQ
        exact W.lret (v := x3) hx hb hr (fun u9 ht hW => ⟨_, rfl, hF, ht⟩) (fun q hq => by cases hq) dX0_product_28
      · exact False.elim (c8 (nI_le (a := k) (b := k5) (by omega) (by omega)))
    | succ r5 ih5 =>
      intro k5 x3 ls hi5_0 hi5_1 hl hF
      rw [F_X0_product_5] at hF
      refine lv_iload hx hb dX0_product_5 (lv_at hl 4 rfl) ?_
      refine lv_iload_n hx hb dX0_product_7 rfl (lv_at hl 1 rfl) ?_
      refine lv_icmp_ge (tgt := 27) hx hb dX0_product_8 (by decide) (fun c8 => ?_) (fun c8 => ?_)
      · exact False.elim (nI_ge (a := k5) (b := k) (by omega) (by omega) c8)
      · skip
        refine lv_lload_n hx hb dX0_product_11 rfl (lv_at hl 3 rfl) ?_
        refine lv_iload_n hx hb dX0_product_12 rfl (lv_at hl 0 rfl) ?_
        refine lv_iload hx hb dX0_product_13 (lv_at hl 4 rfl) ?_
        refine lv_isub hx hb dX0_product_15 ?_
        refine lv_iload_n hx hb dX0_product_16 rfl (lv_at hl 2 rfl) ?_
        refine lv_iadd hx hb dX0_product_17 ?_
        refine lv_i2l hx hb dX0_product_18 rfl ?_
        refine lv_lmul hx hb dX0_product_19 ?_
        refine lv_lstore_n (lv' := [(3, .long (x3 * (((n - (nI k5)) + mo).toInt64))), (0, .int n), (1, .int (nI k)), (2, .int mo), (5, .int (nI k5))]) hx hb dX0_product_20 rfl hl (by decide) rfl (fun ls hl => ?_)
        refine lv_iinc (v := nI (k5 + 1)) (lv' := [(5, .int (nI (k5 + 1))), (3, .long (x3 * (((n - (nI k5)) + mo).toInt64))), (0, .int n), (1, .int (nI k)), (2, .int mo)]) hx hb dX0_product_21 hl (k := 4) rfl (nI_1 _) (by decide) rfl (fun ls hl => ?_)
        refine lv_goto (tgt := 5) hx hb dX0_product_24 (by decide) ?_
        exact ih5 (k5 + 1) (x3 * (((n - (nI k5)) + mo).toInt64)) ls (by omega) (by omega)  (lv_sub hl [2, 3, 4, 1, 0] rfl) hF
  exact lp5 (k - 0) 0 1 ls rfl (by omega)  (lv_sub hl [2, 3, 4, 1, 0] rfl) hF
def F_X0_leastScale_10 (n : Int32) (k : Nat) (u : Int32) : Nat → Nat → Int32
  | 0, k10 => (-1)
  | r10 + 1, k10 => (if 0 < (lg_cmp ((fX0_product n k 0) * u.toInt64) (fX0_product n k (nI k10))) then F_X0_leastScale_10 n k u r10 (k10 + 1)  else nI k10)
def fX0_leastScale (n : Int32) (k : Nat) (u : Int32) : Int32 := F_X0_leastScale_10 n k u ((40 + 1) - 1) 1 
abbrev rmX0_leastScale : Room := { frames := 1, cells := 0, slots := 0, locals := 25 }
set_option maxHeartbeats 4000000 in
set_option maxRecDepth 100000 in
theorem c_X0_leastScale (l : Launch) (D : va_G) (cI : ClassId) (n : Int32) (k : Nat) (u : Int32) (hk : k ≤ 8) : Met l yX0_leastScale wsX0_leastScale rmX0_leastScale (va_Pc [.int n, .int (nI k), .int u] (roP D [(cI, .int)] [])) (vp_Si (fun r9 => r9 = fX0_leastScale n k u)) 0 0 (fun _ => False) := by
  generalize hF : fX0_leastScale n k u = T
  refine Met.ofW (cc := cX0_leastScale) (maxL := 6) (ret := (some .int)) (by decide) rfl ?_
  intro p e s m args below meth c s₁ B hml hv
  obtain ⟨rfl, hP, hK⟩ := hv
  have hx := B.exec
  have hb := B.bytes
  have hr := B.returns
  have hts := atoms_spec (ws := wsX0_leastScale) B.pre
  have hown : s.vm.findClass RX0 = some m.cls := findClass_of_methodNamed B.named
  have hlocks := B.notSynchronized
  have hl := lv_entry ([.int n, .int (nI k), .int u]) (n := 6) (Nat.le_of_ble_eq_true rfl)
  rw [lg_entry_eq]
  generalize (lg_sl ([.int n, .int (nI k), .int u]) ++ List.replicate (6 - (lg_sl ([.int n, .int (nI k), .int u])).length) Slot.unset).toArray = ls at hl ⊢
  refine w_Q (fun Q hQ => ?_)
  have hl : lv_has ls 6 [(0, .int n), (1, .int (nI k)), (2, .int u)] := hl
  rw [fX0_leastScale] at hF
  refine lv_iload_n hx hb dX0_leastScale_0 rfl (lv_at hl 0 rfl) ?_
  refine lv_iload_n hx hb dX0_leastScale_1 rfl (lv_at hl 1 rfl) ?_
  refine lv_iconst (v := 0) hx hb dX0_leastScale_2 (by decide) ?_
  refine cs_l (va_runS (As := [.int n, .int (nI k), .int 0]) (rest := []) ⟨hx, hb, hml, hown, hts⟩ (c_X0_product l D cI n k 0 (by first | assumption | omega)) (va_cwS 3 hts gX0_leastScale_X0_product rfl rfl rfl (by decide +kernel) ⟨(Nat.le_of_ble_eq_true rfl), (Nat.le_of_ble_eq_true rfl)⟩) (ro_pre hP hK) rfl rfl hl.1 rfl (lv_room (Nat.le_of_ble_eq_true rfl)) dX0_leastScale_3 ⟨Nat.zero_le _, Nat.zero_le _⟩) ?_
  refine lv_lstore_n (lv' := [(3, .long (fX0_product n k 0)), (0, .int n), (1, .int (nI k)), (2, .int u)]) hx hb dX0_leastScale_6 rfl hl (by decide) rfl (fun ls hl => ?_)
  refine lv_iconst (v := 1) hx hb dX0_leastScale_7 (by decide) ?_
  refine lv_istore (lv' := [(5, .int 1), (3, .long (fX0_product n k 0)), (0, .int n), (1, .int (nI k)), (2, .int u)]) hx hb dX0_leastScale_8 hl (by decide) rfl (fun ls hl => ?_)
  have lp10 : ∀ (r10 k10 : Nat)  (ls : Array Slot), r10 = (40 + 1) - k10 → k10 ≤ (40 + 1) + 1 → lv_has ls 6 [(0, .int n), (1, .int (nI k)), (2, .int u), (3, .long (fX0_product n k 0)), (5, .int (nI k10))] → F_X0_leastScale_10 n k u r10 k10  = T → W p l e (headSpec wsX0_leastScale rmX0_leastScale).room s m ([.int n, .int (nI k), .int u] : List Value).toArray below meth c s.heap [] 0 0 Q (F0 m 10 ls []) := by
    intro r10
    induction r10 with
    | zero =>
      intro k10  ls hi10_0 hi10_1 hl hF
      rw [F_X0_leastScale_10] at hF
      refine lv_iload hx hb dX0_leastScale_10 (lv_at hl 4 rfl) ?_
      refine lv_bipush (v := 40) hx hb dX0_leastScale_12 (by decide) ?_
      refine lv_icmp_gt (tgt := 41) hx hb dX0_leastScale_14 (by decide) (fun c14 => ?_) (fun c14 => ?_)
      · skip
        refine lv_iconst (v := (-1)) hx hb dX0_leastScale_41 (by decide) ?_
        subst hQ
        exact W.iret (v := (-1)) hx hb hr (fun u9 ht hW => ⟨_, rfl, hF, ht⟩) (fun q hq => by cases hq) dX0_leastScale_42
      · exact False.elim (c14 (nI_lt (a := 40) (b := k10) (by omega) (by omega)))
    | succ r10 ih10 =>
      intro k10  ls hi10_0 hi10_1 hl hF
      rw [F_X0_leastScale_10] at hF
      refine lv_iload hx hb dX0_leastScale_10 (lv_at hl 4 rfl) ?_
      refine lv_bipush (v := 40) hx hb dX0_leastScale_12 (by decide) ?_
      refine lv_icmp_gt (tgt := 41) hx hb dX0_leastScale_14 (by decide) (fun c14 => ?_) (fun c14 => ?_)
      · exact False.elim (nI_nlt (a := 40) (b := k10) (by omega) (by omega) c14)
      · skip
        refine lv_lload_n hx hb dX0_leastScale_17 rfl (lv_at hl 3 rfl) ?_
        refine lv_iload_n hx hb dX0_leastScale_18 rfl (lv_at hl 2 rfl) ?_
        refine lv_i2l hx hb dX0_leastScale_19 rfl ?_
        refine lv_lmul hx hb dX0_leastScale_20 ?_
        refine lv_iload_n hx hb dX0_leastScale_21 rfl (lv_at hl 0 rfl) ?_
        refine lv_iload_n hx hb dX0_leastScale_22 rfl (lv_at hl 1 rfl) ?_
        refine lv_iload hx hb dX0_leastScale_23 (lv_at hl 4 rfl) ?_
        refine cs_l (va_runS (As := [.int n, .int (nI k), .int (nI k10)]) (rest := [.long ((fX0_product n k 0) * u.toInt64)]) ⟨hx, hb, hml, hown, hts⟩ (c_X0_product l D cI n k (nI k10) (by first | assumption | omega)) (va_cwS 3 hts gX0_leastScale_X0_product rfl rfl rfl (by decide +kernel) ⟨(Nat.le_of_ble_eq_true rfl), (Nat.le_of_ble_eq_true rfl)⟩) (ro_pre hP hK) rfl rfl hl.1 rfl (lv_room (Nat.le_of_ble_eq_true rfl)) dX0_leastScale_25 ⟨Nat.zero_le _, Nat.zero_le _⟩) ?_
        refine W.lcmp hx hb dX0_leastScale_28 ?_
        refine lv_if_gt (tgt := 35) hx hb dX0_leastScale_29 (by decide) (fun c29 => ?_) (fun c29 => ?_)
        · rw [if_pos c29] at hF
          refine lv_iinc (v := nI (k10 + 1)) (lv' := [(5, .int (nI (k10 + 1))), (0, .int n), (1, .int (nI k)), (2, .int u), (3, .long (fX0_product n k 0))]) hx hb dX0_leastScale_35 hl (k := 4) rfl (nI_1 _) (by decide) rfl (fun ls hl => ?_)
          refine lv_goto (tgt := 10) hx hb dX0_leastScale_38 (by decide) ?_
          exact ih10 (k10 + 1)  ls (by omega) (by omega)  (lv_sub hl [1, 2, 3, 4, 0] rfl) hF
        · rw [if_neg c29] at hF
          refine lv_iload hx hb dX0_leastScale_32 (lv_at hl 4 rfl) ?_
          subst hQ
          exact W.iret (v := nI k10) hx hb hr (fun u9 ht hW => ⟨_, rfl, hF, ht⟩) (fun q hq => by cases hq) dX0_leastScale_34
  exact lp10 ((40 + 1) - 1) 1  ls rfl (by omega)  (lv_sub hl [2, 3, 4, 1, 0] rfl) hF
def F_X6_commonDivisor_9  : Nat → Nat → Int64 → Int64 → Int64
  | 0, k9, x4, x6 => (if (lg_cmp x4 1) < 0 then 1 else x4)
  | r9 + 1, k9, x4, x6 => (if (lg_cmp x6 0) = 0 then (if (lg_cmp x4 1) < 0 then 1 else x4) else F_X6_commonDivisor_9  r9 (k9 + 1) x6 (x4 - x4 / x6 * x6))
def fX6_commonDivisor (a : Int64) (b : Int64) : Int64 := F_X6_commonDivisor_9  (1000 - 0) 0 a b
abbrev rmX6_commonDivisor : Room := { frames := 0, cells := 0, slots := 0, locals := 0 }
set_option maxHeartbeats 4000000 in
set_option maxRecDepth 100000 in
theorem c_X6_commonDivisor (l : Launch) (D : va_G) (cI : ClassId) (a : Int64) (b : Int64)  : Met l yX6_commonDivisor wsX6_commonDivisor rmX6_commonDivisor (va_Pc [.long a, .long b] (roP D [(cI, .int)] [])) (vp_Sl (fun r9 => r9 = fX6_commonDivisor a b)) 0 0 (fun _ => False) := by
  generalize hF : fX6_commonDivisor a b = T
  refine Met.ofW (cc := cX6_commonDivisor) (maxL := 11) (ret := (some .long)) (by decide) rfl ?_
  intro p e s m args below meth c s₁ B hml hv
  obtain ⟨rfl, hP, hK⟩ := hv
  have hx := B.exec
  have hb := B.bytes
  have hr := B.returns
  have hts := atoms_spec (ws := wsX6_commonDivisor) B.pre
  have hown : s.vm.findClass RX6 = some m.cls := findClass_of_methodNamed B.named
  have hlocks := B.notSynchronized
  have hl := lv_entry ([.long a, .long b]) (n := 11) (Nat.le_of_ble_eq_true rfl)
  rw [lg_entry_eq]
  generalize (lg_sl ([.long a, .long b]) ++ List.replicate (11 - (lg_sl ([.long a, .long b])).length) Slot.unset).toArray = ls at hl ⊢
  refine w_Q (fun Q hQ => ?_)
  have hl : lv_has ls 11 [(0, .long a), (2, .long b)] := hl
  rw [fX6_commonDivisor] at hF
  refine lv_lload_n hx hb dX6_commonDivisor_0 rfl (lv_at hl 0 rfl) ?_
  refine lv_lstore (lv' := [(4, .long a), (0, .long a), (2, .long b)]) hx hb dX6_commonDivisor_1 hl (by decide) rfl (fun ls hl => ?_)
  refine lv_lload_n hx hb dX6_commonDivisor_3 rfl (lv_at hl 2 rfl) ?_
  refine lv_lstore (lv' := [(6, .long b), (4, .long a), (0, .long a), (2, .long b)]) hx hb dX6_commonDivisor_4 hl (by decide) rfl (fun ls hl => ?_)
  refine lv_iconst (v := 0) hx hb dX6_commonDivisor_6 (by decide) ?_
  refine lv_istore (lv' := [(8, .int 0), (6, .long b), (4, .long a), (0, .long a), (2, .long b)]) hx hb dX6_commonDivisor_7 hl (by decide) rfl (fun ls hl => ?_)
  have lp9 : ∀ (r9 k9 : Nat) (x4 : Int64) (x6 : Int64) (ls : Array Slot), r9 = 1000 - k9 → k9 ≤ 1000 + 1 → lv_has ls 11 [(0, .long a), (2, .long b), (4, .long x4), (6, .long x6), (8, .int (nI k9))] → F_X6_commonDivisor_9  r9 k9 x4 x6 = T → W p l e (headSpec wsX6_commonDivisor rmX6_commonDivisor).room s m ([.long a, .long b] : List Value).toArray below meth c s.heap [] 0 0 Q (F0 m 9 ls []) := by
    intro r9
    induction r9 with
    | zero =>
      intro k9 x4 x6 ls hi9_0 hi9_1 hl hF
      rw [F_X6_commonDivisor_9] at hF
      refine lv_iload hx hb dX6_commonDivisor_9 (lv_at hl 4 rfl) ?_
      refine lv_sipush (v := 1000) hx hb dX6_commonDivisor_11 (by decide) ?_
      refine lv_icmp_ge (tgt := 45) hx hb dX6_commonDivisor_14 (by decide) (fun c14 => ?_) (fun c14 => ?_)
      · skip
        refine lv_lload hx hb dX6_commonDivisor_45 (lv_at hl 2 rfl) ?_
        refine lv_lconst (v := 1) hx hb dX6_commonDivisor_47 (by decide) ?_
        refine W.lcmp hx hb dX6_commonDivisor_48 ?_
        refine lv_if_lt (tgt := 57) hx hb dX6_commonDivisor_49 (by decide) (fun c49 => ?_) (fun c49 => ?_)
        · rw [if_pos c49] at hF
          refine lv_lconst (v := 1) hx hb dX6_commonDivisor_57 (by decide) ?_
          subst hQ
          exact W.lret (v := 1) hx hb hr (fun u9 ht hW => ⟨_, rfl, hF, ht⟩) (fun q hq => by cases hq) dX6_commonDivisor_58
        · rw [if_neg c49] at hF
          refine lv_lload hx hb dX6_commonDivisor_52 (lv_at hl 2 rfl) ?_
          refine lv_goto (tgt := 58) hx hb dX6_commonDivisor_54 (by decide) ?_
          subst hQ
          exact W.lret (v := x4) hx hb hr (fun u9 ht hW => ⟨_, rfl, hF, ht⟩) (fun q hq => by cases hq) dX6_commonDivisor_58
      · exact False.elim (c14 (nI_le (a := 1000) (b := k9) (by omega) (by omega)))
    | succ r9 ih9 =>
      intro k9 x4 x6 ls hi9_0 hi9_1 hl hF
      rw [F_X6_commonDivisor_9] at hF
      refine lv_iload hx hb dX6_commonDivisor_9 (lv_at hl 4 rfl) ?_
      refine lv_sipush (v := 1000) hx hb dX6_commonDivisor_11 (by decide) ?_
      refine lv_icmp_ge (tgt := 45) hx hb dX6_commonDivisor_14 (by decide) (fun c14 => ?_) (fun c14 => ?_)
      · exact False.elim (nI_ge (a := k9) (b := 1000) (by omega) (by omega) c14)
      · skip
        refine lv_lload hx hb dX6_commonDivisor_17 (lv_at hl 3 rfl) ?_
        refine lv_lconst (v := 0) hx hb dX6_commonDivisor_19 (by decide) ?_
        refine W.lcmp hx hb dX6_commonDivisor_20 ?_
        refine lv_if_eq (tgt := 45) hx hb dX6_commonDivisor_21 (by decide) (fun c21 => ?_) (fun c21 => ?_)
        · rw [if_pos c21] at hF
          refine lv_lload hx hb dX6_commonDivisor_45 (lv_at hl 2 rfl) ?_
          refine lv_lconst (v := 1) hx hb dX6_commonDivisor_47 (by decide) ?_
          refine W.lcmp hx hb dX6_commonDivisor_48 ?_
          refine lv_if_lt (tgt := 57) hx hb dX6_commonDivisor_49 (by decide) (fun c49 => ?_) (fun c49 => ?_)
          · rw [if_pos c49] at hF
            refine lv_lconst (v := 1) hx hb dX6_commonDivisor_57 (by decide) ?_
            subst hQ
            exact W.lret (v := 1) hx hb hr (fun u9 ht hW => ⟨_, rfl, hF, ht⟩) (fun q hq => by cases hq) dX6_commonDivisor_58
          · rw [if_neg c49] at hF
            refine lv_lload hx hb dX6_commonDivisor_52 (lv_at hl 2 rfl) ?_
            refine lv_goto (tgt := 58) hx hb dX6_commonDivisor_54 (by decide) ?_
            subst hQ
            exact W.lret (v := x4) hx hb hr (fun u9 ht hW => ⟨_, rfl, hF, ht⟩) (fun q hq => by cases hq) dX6_commonDivisor_58
        · rw [if_neg c21] at hF
          refine lv_lload hx hb dX6_commonDivisor_24 (lv_at hl 2 rfl) ?_
          refine lv_lload hx hb dX6_commonDivisor_26 (lv_at hl 3 rfl) ?_
          refine lv_lrem hx hb dX6_commonDivisor_28 (lg_ne c21) ?_
          refine lv_lstore (lv' := [(9, .long (x4 - x4 / x6 * x6)), (0, .long a), (2, .long b), (4, .long x4), (6, .long x6), (8, .int (nI k9))]) hx hb dX6_commonDivisor_29 hl (by decide) rfl (fun ls hl => ?_)
          refine lv_lload hx hb dX6_commonDivisor_31 (lv_at hl 4 rfl) ?_
          refine lv_lstore (lv' := [(4, .long x6), (9, .long (x4 - x4 / x6 * x6)), (0, .long a), (2, .long b), (6, .long x6), (8, .int (nI k9))]) hx hb dX6_commonDivisor_33 hl (by decide) rfl (fun ls hl => ?_)
          refine lv_lload hx hb dX6_commonDivisor_35 (lv_at hl 1 rfl) ?_
          refine lv_lstore (lv' := [(6, .long (x4 - x4 / x6 * x6)), (4, .long x6), (9, .long (x4 - x4 / x6 * x6)), (0, .long a), (2, .long b), (8, .int (nI k9))]) hx hb dX6_commonDivisor_37 hl (by decide) rfl (fun ls hl => ?_)
          refine lv_iinc (v := nI (k9 + 1)) (lv' := [(8, .int (nI (k9 + 1))), (6, .long (x4 - x4 / x6 * x6)), (4, .long x6), (9, .long (x4 - x4 / x6 * x6)), (0, .long a), (2, .long b)]) hx hb dX6_commonDivisor_39 hl (k := 5) rfl (nI_1 _) (by decide) rfl (fun ls hl => ?_)
          refine lv_goto (tgt := 9) hx hb dX6_commonDivisor_42 (by decide) ?_
          exact ih9 (k9 + 1) x6 (x4 - x4 / x6 * x6) ls (by omega) (by omega)  (lv_sub hl [4, 5, 2, 1, 0] rfl) hF
  exact lp9 (1000 - 0) 0 a b ls rfl (by omega)  (lv_sub hl [3, 4, 2, 1, 0] rfl) hF
