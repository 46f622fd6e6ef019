theorem LWS.hS {D : va_G} {cI cS : ClassId} {A0 : Nat → Prop} {H0 : Heap} {h hm : Nat} {H : Heap} {locs : List Loc} (S : LWS D cI cS A0 H0 h hm H locs) : va_S A0 H0 H locs := by
  obtain ⟨_, _, _, _, _, _, _, _, _, _, _, _, _, _, _, _, _, _, _, _, _, _, _, _, _, _, _, _, _, _, _, _, _, _, _, _, _, _, _, _, _, _, _, _, _, h1, _⟩ := S
  exact h1.2.2
set_option maxHeartbeats 4000000 in
set_option maxRecDepth 100000 in
theorem law_loop {p : Program} {l : Launch} {e : Env} {s : State} {m : MethodId} {below : List Frame} {meth : Method} {c : Code} {b L : Nat} {xs : Nat → Int32} (hL : L ≤ 3072) (C0 : lw_At p s m meth c b L xs) {D : va_G} {cI cS : ClassId} (hK : kI D [(cI, .int), (cS, .object RX5)] s) {h hm : Nat} :
    ∀ (n k : Nat) (H : Heap) (locs : List Loc) (ls : Array Slot), 6 * k < L + 6 → L + 6 ≤ 6 * (k + n) → LWS D cI cS (fun q : Nat => s.heap.size ≤ q) s.heap h hm H locs → lv_has ls 4 [(0, .ref b), (1, .ref h), (2, .ref hm), (3, .int (nI (6 * k)))] → W p l e room_1 s m #[Value.ref b] below meth c H locs 600000 7302250 (lw_Z below #[Value.ref b] s) (F0 m 18 ls []) := by
  obtain ⟨hx, hb, hr, hml, hown, hts, hX, hbl, hlocks, hgv⟩ := id C0
  have hbA : ¬ (fun q : Nat => s.heap.size ≤ q) b := Nat.not_le.mpr hbl
  intro n
  induction n with
  | zero =>
    intro k H locs ls h1 h2
    exact absurd h2 (by omega)
  | succ n ih =>
    intro k H locs ls hk1 hk2 S hl
    have hS := S.hS
    refine lv_iload_n hx hb dL_law_18 rfl (lv_at hl 3 rfl) ?_
    refine lv_aload_n hx hb dL_law_19 rfl (lv_at hl 0 rfl) ?_
    refine va_slen hx hb hX hbl hbA hS dL_law_20 ?_
    refine lv_bipush (v := 6) hx hb dL_law_21 (by decide) ?_
    refine lv_isub hx hb dL_law_23 ?_
    refine lv_icmp_gt (tgt := 1240) hx hb dL_law_24 (by decide) (fun _ => ?_) (fun cc => ?_)
    · refine lv_iconst (v := 1) hx hb dL_law_1240 (by decide) ?_
      refine va_forget (fun q hq => hS.2.2 q hq) ?_
      exact lw_ret hx hb hr hlocks dL_law_1241
    · have hk : 6 * k + 6 ≤ L := by
        have cc : ¬ nI L - nI 6 < nI (6 * k) := cc
        rw [i32_lt, pk_sub_toInt (by omega) (by omega), nI_toInt (by omega)] at cc
        omega
      have nx : ∀ (H : Heap) (locs : List Loc), LWS D cI cS (fun q : Nat => s.heap.size ≤ q) s.heap h hm H locs → W p l e room_1 s m #[Value.ref b] below meth c H locs 600000 7302250 (lw_Z below #[Value.ref b] s) (F0 m 1234 ls []) := by
        intro H locs S
        refine lv_iinc (v := nI (6 * (k + 1))) (lv' := [(3, .int (nI (6 * (k + 1)))), (0, .ref b), (1, .ref h), (2, .ref hm)]) hx hb dL_law_1234 hl (k := 3) rfl (nI_add (6 * k) 6) (by decide) rfl (fun ls hl => ?_)
        refine lv_goto (tgt := 18) hx hb dL_law_1237 (by decide) ?_
        exact ih (k + 1) H locs ls (by omega) (by omega) S (lv_sub hl [1, 2, 3, 0] rfl)
      have h0 : vp_in (nI (6 * k)) L := vp_in_nI (by omega) (by omega)
      have h1 : vp_in (nI (6 * k) + 1) L := by rw [show nI (6 * k) + 1 = nI (6 * k + 1) from nI_add (6 * k) 1]; exact vp_in_nI (by omega) (by omega)
      have h2 : vp_in (nI (6 * k) + 2) L := by rw [show nI (6 * k) + 2 = nI (6 * k + 2) from nI_add (6 * k) 2]; exact vp_in_nI (by omega) (by omega)
      have h3 : vp_in (nI (6 * k) + 3) L := by rw [show nI (6 * k) + 3 = nI (6 * k + 3) from nI_add (6 * k) 3]; exact vp_in_nI (by omega) (by omega)
      have h4 : vp_in (nI (6 * k) + 4) L := by rw [show nI (6 * k) + 4 = nI (6 * k + 4) from nI_add (6 * k) 4]; exact vp_in_nI (by omega) (by omega)
      have h5 : vp_in (nI (6 * k) + 5) L := by rw [show nI (6 * k) + 5 = nI (6 * k + 5) from nI_add (6 * k) 5]; exact vp_in_nI (by omega) (by omega)
      refine lv_aload_n hx hb dL_law_27 rfl (lv_at hl 0 rfl) ?_
      refine lv_iload_n hx hb dL_law_28 rfl (lv_at hl 3 rfl) ?_
      refine va_sld hx hb hX hbl hbA hS h0 dL_law_29 ?_
      refine lv_bipush (v := 31) hx hb dL_law_30 (by decide) ?_
      refine lv_iand hx hb dL_law_32 ?_
      obtain ⟨j, hj, ej⟩ := pk_andE (xs (nI (6 * k)).toNatClampNeg) (m := 31) 5 rfl
      rw [ej]
      rcases (show j = 0 ∨ j = 1 ∨ j = 2 ∨ j = 3 ∨ j = 4 ∨ j = 5 ∨ j = 6 ∨ j = 7 ∨ j = 8 ∨ j = 9 ∨ j = 10 ∨ j = 11 ∨ j = 12 ∨ j = 13 ∨ j = 14 ∨ j = 15 ∨ j = 16 ∨ j = 17 ∨ j = 18 ∨ j = 19 ∨ j = 20 ∨ j = 21 ∨ j = 22 ∨ j = 23 ∨ j = 24 ∨ j = 25 ∨ j = 26 ∨ j = 27 ∨ j = 28 ∨ j = 29 ∨ j = 30 ∨ j = 31 by omega) with rfl | rfl | rfl | rfl | rfl | rfl | rfl | rfl | rfl | rfl | rfl | rfl | rfl | rfl | rfl | rfl | rfl | rfl | rfl | rfl | rfl | rfl | rfl | rfl | rfl | rfl | rfl | rfl | rfl | rfl | rfl | rfl
      · exact lv_tableIn (off := 143) (tgt := 176) hx hb dL_law_33 (by decide) (by decide) rfl (by decide) (lw_c0 C0 hK S hl h1 h2 nx)
      · exact lv_tableIn (off := 176) (tgt := 209) hx hb dL_law_33 (by decide) (by decide) rfl (by decide) (lw_c1 C0 hK S hl h1 h2 h3 nx)
      · exact lv_tableIn (off := 219) (tgt := 252) hx hb dL_law_33 (by decide) (by decide) rfl (by decide) (lw_c2 C0 hK S hl h1 h2 nx)
      · exact lv_tableIn (off := 252) (tgt := 285) hx hb dL_law_33 (by decide) (by decide) rfl (by decide) (lw_c3 C0 hK S hl h1 h2 h3 nx)
      · exact lv_tableIn (off := 295) (tgt := 328) hx hb dL_law_33 (by decide) (by decide) rfl (by decide) (lw_c4 C0 hK S hl h1 h2 h3 h4 h5 nx)
      · exact lv_tableIn (off := 358) (tgt := 391) hx hb dL_law_33 (by decide) (by decide) rfl (by decide) (lw_c5 C0 hK S hl h1 nx)
      · exact lv_tableIn (off := 381) (tgt := 414) hx hb dL_law_33 (by decide) (by decide) rfl (by decide) (lw_c6 C0 hK S hl h1 nx)
      · exact lv_tableIn (off := 404) (tgt := 437) hx hb dL_law_33 (by decide) (by decide) rfl (by decide) (lw_c7 C0 hK S hl h1 nx)
      · exact lv_tableIn (off := 427) (tgt := 460) hx hb dL_law_33 (by decide) (by decide) rfl (by decide) (lw_c8 C0 hK S hl h1 h2 nx)
      · exact lv_tableIn (off := 460) (tgt := 493) hx hb dL_law_33 (by decide) (by decide) rfl (by decide) (lw_c9 C0 hK S hl h1 h2 nx)
      · exact lv_tableIn (off := 493) (tgt := 526) hx hb dL_law_33 (by decide) (by decide) rfl (by decide) (lw_c10 C0 hK S hl h1 nx)
      · exact lv_tableIn (off := 516) (tgt := 549) hx hb dL_law_33 (by decide) (by decide) rfl (by decide) (lw_c11 C0 hK S hl h1 h2 nx)
      · exact lv_tableIn (off := 549) (tgt := 582) hx hb dL_law_33 (by decide) (by decide) rfl (by decide) (lw_c12 C0 hK S hl h1 nx)
      · exact lv_tableIn (off := 572) (tgt := 605) hx hb dL_law_33 (by decide) (by decide) rfl (by decide) (lw_c13 C0 hK S hl h1 h2 h3 nx)
      · exact lv_tableIn (off := 615) (tgt := 648) hx hb dL_law_33 (by decide) (by decide) rfl (by decide) (lw_c14 C0 hK S hl h1 nx)
      · exact lv_tableIn (off := 638) (tgt := 671) hx hb dL_law_33 (by decide) (by decide) rfl (by decide) (lw_c15 C0 hK S hl h1 nx)
      · exact lv_tableIn (off := 661) (tgt := 694) hx hb dL_law_33 (by decide) (by decide) rfl (by decide) (lw_c16 C0 hK S hl h1 nx)
      · exact lv_tableIn (off := 684) (tgt := 717) hx hb dL_law_33 (by decide) (by decide) rfl (by decide) (lw_c17 C0 hK S hl h1 h2 nx)
      · exact lv_tableIn (off := 717) (tgt := 750) hx hb dL_law_33 (by decide) (by decide) rfl (by decide) (lw_c18 C0 hK S hl h1 h2 nx)
      · exact lv_tableIn (off := 750) (tgt := 783) hx hb dL_law_33 (by decide) (by decide) rfl (by decide) (lw_c19 C0 hK S hl h1 nx)
      · exact lv_tableIn (off := 773) (tgt := 806) hx hb dL_law_33 (by decide) (by decide) rfl (by decide) (lw_c20 C0 hK S hl h1 h2 h3 nx)
      · exact lv_tableIn (off := 816) (tgt := 849) hx hb dL_law_33 (by decide) (by decide) rfl (by decide) (lw_c21 C0 hK S hl h1 h2 h3 h4 nx)
      · exact lv_tableIn (off := 869) (tgt := 902) hx hb dL_law_33 (by decide) (by decide) rfl (by decide) (lw_c22 C0 hK S hl  nx)
      · exact lv_tableIn (off := 882) (tgt := 915) hx hb dL_law_33 (by decide) (by decide) rfl (by decide) (lw_c23 C0 hK S hl h1 h2 nx)
      · exact lv_tableIn (off := 915) (tgt := 948) hx hb dL_law_33 (by decide) (by decide) rfl (by decide) (lw_c24 C0 hK S hl h1 nx)
      · exact lv_tableIn (off := 938) (tgt := 971) hx hb dL_law_33 (by decide) (by decide) rfl (by decide) (lw_c25 C0 hK S hl  nx)
      · exact lv_tableIn (off := 951) (tgt := 984) hx hb dL_law_33 (by decide) (by decide) rfl (by decide) (lw_c26 C0 hK S hl h1 h2 h3 h4 h5 nx)
      · exact lv_tableIn (off := 1014) (tgt := 1047) hx hb dL_law_33 (by decide) (by decide) rfl (by decide) (lw_c27 C0 hK S hl h1 h2 h3 h4 nx)
      · exact lv_tableIn (off := 1067) (tgt := 1100) hx hb dL_law_33 (by decide) (by decide) rfl (by decide) (lw_c28 C0 hK S hl h1 h2 h3 h4 nx)
      · exact lv_tableIn (off := 1121) (tgt := 1154) hx hb dL_law_33 (by decide) (by decide) rfl (by decide) (lw_c29 C0 hK S hl h1 h2 h3 nx)
      · exact lv_tableIn (off := 1164) (tgt := 1197) hx hb dL_law_33 (by decide) (by decide) rfl (by decide) (lw_c30 C0 hK S hl h1 nx)
      · exact lv_tableIn (off := 1187) (tgt := 1220) hx hb dL_law_33 (by decide) (by decide) rfl (by decide) (lw_c31 C0 hK S hl  nx)
