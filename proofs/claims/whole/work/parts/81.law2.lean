set_option maxHeartbeats 4000000 in
set_option maxRecDepth 100000 in
theorem lw_c16 {p : Program} {l : Launch} {e : Env} {s : State} {m : MethodId} {below : List Frame} {meth : Method} {c : Code} {b L : Nat} {xs : Nat → Int32} (C0 : lw_At p s m meth c b L xs) {D : va_G} {cI cS : ClassId} (hK : kI D [(cI, .int), (cS, .object RX5)] s) {i h hm : Nat} {H : Heap} {locs : List Loc} {ls : Array Slot} (S : LWS D cI cS (fun q : Nat => s.heap.size ≤ q) s.heap h hm H locs) (hl : lv_has ls 4 [(0, .ref b), (1, .ref h), (2, .ref hm), (3, .int (nI i))]) (h1 : vp_in (nI i + 1) L) (kk : ∀ (H : Heap) (locs : List Loc), LWS D cI cS (fun q : Nat => s.heap.size ≤ q) s.heap h hm H locs → W p l e room_1 s m #[Value.ref b] below meth c H locs 600000 7302250 (lw_Z below #[Value.ref b] s) (F0 m 1234 ls [])) : W p l e room_1 s m #[Value.ref b] below meth c H locs 600000 7302250 (lw_Z below #[Value.ref b] s) (F0 m 694 ls []) := by
  obtain ⟨hx, hb, hr, hml, hown, hts, hX, hbl, hlocks, hgv⟩ := C0
  have hts := fun w h => hts w (wsL_law_in w h)
  have hown : s.vm.findClass RL = some m.cls := hown
  have hA : ∀ q : Nat, s.heap.size ≤ q → (fun q : Nat => s.heap.size ≤ q) q := fun _ h => h
  have hbA : ¬ (fun q : Nat => s.heap.size ≤ q) b := Nat.not_le.mpr hbl
  have hKi := hK.sub [0] (tys' := [(cI, .int)]) rfl
  obtain ⟨sa, sg, tg, tr, ln, fo, ft, fl, fn, ro, tp, tq, per, rea, rn, wo, tn, td, rw, wn, od, sr, a0, a1, a3, a5, a6, a8, a12, sn, tu, fm, we, rm, pm, ra, wm, rv, bs, re, ot, cp, ab, be, hh, ⟨hP, hD, hS⟩, hRS, hRF, hRR, hRW, hsb, hb30⟩ := S
  obtain ⟨y1, hy1⟩ : ∃ y : Int32, y = xs (nI i + 1).toNatClampNeg := ⟨_, rfl⟩
  refine lv_aload_n hx hb dL_law_694 rfl (lv_at hl 1 rfl) ?_
  refine lv_aload_n hx hb dL_law_695 rfl (lv_at hl 0 rfl) ?_
  refine lv_iload_n hx hb dL_law_696 rfl (lv_at hl 3 rfl) ?_
  refine lv_iconst (v := 1) hx hb dL_law_697 (by decide) ?_
  refine lv_iadd hx hb dL_law_698 ?_
  refine va_sld hx hb hX hbl hbA hS h1 dL_law_699 ?_
  rw [← hy1]
  refine cl_i (va_runV (As := [.int y1]) (rest := []) ⟨hx, hb, hml, hown, hts⟩ (c_X6_rests l D cI cS H.size h sa sg tg tr ln fo ft fl fn ro tp tq per rea rn wo tn td rw wn od sr y1 ) (cwV 1 hts gL_law_X6_rests rfl rfl rfl (by decide +kernel) ⟨(Nat.le_of_ble_eq_true rfl), (Nat.le_of_ble_eq_true rfl)⟩) (wr_preV (va_P_l hP) (va_D_l hD) hK rfl (q0 := 0) rfl) rfl rfl hl.1 rfl (lv_room (Nat.le_of_ble_eq_true rfl)) dL_law_700 ⟨(Nat.le_of_ble_eq_true rfl), (Nat.le_of_ble_eq_true rfl)⟩) hP hD hS hA [h, sa, sg 0, tg 0, sg 1, tg 1, sg 2, tg 2, sg 3, tg 3, sg 4, tg 4, sg 5, tg 5, fo, ft, ro, tp, tq, wo, tn, td] rfl rfl (fun H locs hP hD hS => ?_)
  refine lv_aload_n hx hb dL_law_703 rfl (lv_at hl 2 rfl) ?_
  refine lv_aload_n hx hb dL_law_704 rfl (lv_at hl 0 rfl) ?_
  refine lv_iload_n hx hb dL_law_705 rfl (lv_at hl 3 rfl) ?_
  refine lv_iconst (v := 1) hx hb dL_law_706 (by decide) ?_
  refine lv_iadd hx hb dL_law_707 ?_
  refine va_sld hx hb hX hbl hbA hS h1 dL_law_708 ?_
  rw [← hy1]
  refine cr_i (va_runV (As := [.int y1]) (rest := [.int ((fX6_rests per rea rn y1).1)]) ⟨hx, hb, hml, hown, hts⟩ (c_X7_rests l D cI H.size hm a0 a1 a3 a5 a6 a8 a12 sn tu fm we rm pm ra wm rv bs re ot cp ab be hh y1 ) (cwV 1 hts gL_law_X7_rests rfl rfl rfl (by decide +kernel) ⟨(Nat.le_of_ble_eq_true rfl), (Nat.le_of_ble_eq_true rfl)⟩) (wr_preV (va_P_r hP) (va_D_r hD) hKi rfl (q0 := 0) rfl) rfl rfl hl.1 rfl (lv_room (Nat.le_of_ble_eq_true rfl)) dL_law_709 ⟨(Nat.le_of_ble_eq_true rfl), (Nat.le_of_ble_eq_true rfl)⟩) hP hD hS hA [hm, a0, a1, a3, a5, a6, a8, a12] rfl rfl (fun H locs hP hD hS => ?_)
  have he := e_rests hRR y1
  refine lv_icmp_eq (tgt := 1234) hx hb dL_law_712 (by decide) (fun _ => ?_) (fun q => absurd he.1 q)
  exact kk H locs ⟨sa, sg, tg, tr, ln, fo, ft, fl, fn, ro, tp, tq, ((fX6_rests per rea rn y1).2.2.1), ((fX6_rests per rea rn y1).2.2.2), ((fX6_rests per rea rn y1).2.1), wo, tn, td, rw, wn, od, sr, a0, a1, a3, a5, a6, a8, a12, sn, tu, fm, we, ((fX7_rests rm pm ra y1).2.1), ((fX7_rests rm pm ra y1).2.2.1), ((fX7_rests rm pm ra y1).2.2.2), wm, rv, bs, re, ot, cp, ab, be, hh, ⟨hP, hD, hS⟩, hRS, hRF, he.2, hRW, hsb, hb30⟩
set_option maxHeartbeats 4000000 in
set_option maxRecDepth 100000 in
theorem lw_c17 {p : Program} {l : Launch} {e : Env} {s : State} {m : MethodId} {below : List Frame} {meth : Method} {c : Code} {b L : Nat} {xs : Nat → Int32} (C0 : lw_At p s m meth c b L xs) {D : va_G} {cI cS : ClassId} (hK : kI D [(cI, .int), (cS, .object RX5)] s) {i h hm : Nat} {H : Heap} {locs : List Loc} {ls : Array Slot} (S : LWS D cI cS (fun q : Nat => s.heap.size ≤ q) s.heap h hm H locs) (hl : lv_has ls 4 [(0, .ref b), (1, .ref h), (2, .ref hm), (3, .int (nI i))]) (h1 : vp_in (nI i + 1) L) (h2 : vp_in (nI i + 2) L) (kk : ∀ (H : Heap) (locs : List Loc), LWS D cI cS (fun q : Nat => s.heap.size ≤ q) s.heap h hm H locs → W p l e room_1 s m #[Value.ref b] below meth c H locs 600000 7302250 (lw_Z below #[Value.ref b] s) (F0 m 1234 ls [])) : W p l e room_1 s m #[Value.ref b] below meth c H locs 600000 7302250 (lw_Z below #[Value.ref b] s) (F0 m 717 ls []) := by
  obtain ⟨hx, hb, hr, hml, hown, hts, hX, hbl, hlocks, hgv⟩ := C0
  have hts := fun w h => hts w (wsL_law_in w h)
  have hown : s.vm.findClass RL = some m.cls := hown
  have hA : ∀ q : Nat, s.heap.size ≤ q → (fun q : Nat => s.heap.size ≤ q) q := fun _ h => h
  have hbA : ¬ (fun q : Nat => s.heap.size ≤ q) b := Nat.not_le.mpr hbl
  have hKi := hK.sub [0] (tys' := [(cI, .int)]) rfl
  obtain ⟨sa, sg, tg, tr, ln, fo, ft, fl, fn, ro, tp, tq, per, rea, rn, wo, tn, td, rw, wn, od, sr, a0, a1, a3, a5, a6, a8, a12, sn, tu, fm, we, rm, pm, ra, wm, rv, bs, re, ot, cp, ab, be, hh, ⟨hP, hD, hS⟩, hRS, hRF, hRR, hRW, hsb, hb30⟩ := S
  obtain ⟨y1, hy1⟩ : ∃ y : Int32, y = xs (nI i + 1).toNatClampNeg := ⟨_, rfl⟩
  obtain ⟨y2, hy2⟩ : ∃ y : Int32, y = xs (nI i + 2).toNatClampNeg := ⟨_, rfl⟩
  refine lv_aload_n hx hb dL_law_717 rfl (lv_at hl 1 rfl) ?_
  refine lv_aload_n hx hb dL_law_718 rfl (lv_at hl 0 rfl) ?_
  refine lv_iload_n hx hb dL_law_719 rfl (lv_at hl 3 rfl) ?_
  refine lv_iconst (v := 1) hx hb dL_law_720 (by decide) ?_
  refine lv_iadd hx hb dL_law_721 ?_
  refine va_sld hx hb hX hbl hbA hS h1 dL_law_722 ?_
  rw [← hy1]
  refine lv_aload_n hx hb dL_law_723 rfl (lv_at hl 0 rfl) ?_
  refine lv_iload_n hx hb dL_law_724 rfl (lv_at hl 3 rfl) ?_
  refine lv_iconst (v := 2) hx hb dL_law_725 (by decide) ?_
  refine lv_iadd hx hb dL_law_726 ?_
  refine va_sld hx hb hX hbl hbA hS h2 dL_law_727 ?_
  rw [← hy2]
  refine cl_i (va_runV (As := [.int y1, .int y2]) (rest := []) ⟨hx, hb, hml, hown, hts⟩ (c_X6_rest l D cI cS H.size h sa sg tg tr ln fo ft fl fn ro tp tq per rea rn wo tn td rw wn od sr y1 y2 hRR.hrn) (cwV 2 hts gL_law_X6_rest rfl rfl rfl (by decide +kernel) ⟨(Nat.le_of_ble_eq_true rfl), (Nat.le_of_ble_eq_true rfl)⟩) (wr_preV (va_P_l hP) (va_D_l hD) hK rfl (q0 := 0) rfl) rfl rfl hl.1 rfl (lv_room (Nat.le_of_ble_eq_true rfl)) dL_law_728 ⟨(Nat.le_of_ble_eq_true rfl), (Nat.le_of_ble_eq_true rfl)⟩) hP hD hS hA [h, sa, sg 0, tg 0, sg 1, tg 1, sg 2, tg 2, sg 3, tg 3, sg 4, tg 4, sg 5, tg 5, fo, ft, ro, tp, tq, wo, tn, td] rfl rfl (fun H locs hP hD hS => ?_)
  refine lv_aload_n hx hb dL_law_731 rfl (lv_at hl 2 rfl) ?_
  refine lv_aload_n hx hb dL_law_732 rfl (lv_at hl 0 rfl) ?_
  refine lv_iload_n hx hb dL_law_733 rfl (lv_at hl 3 rfl) ?_
  refine lv_iconst (v := 1) hx hb dL_law_734 (by decide) ?_
  refine lv_iadd hx hb dL_law_735 ?_
  refine va_sld hx hb hX hbl hbA hS h1 dL_law_736 ?_
  rw [← hy1]
  refine lv_aload_n hx hb dL_law_737 rfl (lv_at hl 0 rfl) ?_
  refine lv_iload_n hx hb dL_law_738 rfl (lv_at hl 3 rfl) ?_
  refine lv_iconst (v := 2) hx hb dL_law_739 (by decide) ?_
  refine lv_iadd hx hb dL_law_740 ?_
  refine va_sld hx hb hX hbl hbA hS h2 dL_law_741 ?_
  rw [← hy2]
  refine cr_i (va_runV (As := [.int y1, .int y2]) (rest := [.int ((fX6_rest per rea rn y1 y2).1)]) ⟨hx, hb, hml, hown, hts⟩ (c_X7_rest l D cI H.size hm a0 a1 a3 a5 a6 a8 a12 sn tu fm we rm pm ra wm rv bs re ot cp ab be hh y1 y2 hRR.hrm) (cwV 2 hts gL_law_X7_rest rfl rfl rfl (by decide +kernel) ⟨(Nat.le_of_ble_eq_true rfl), (Nat.le_of_ble_eq_true rfl)⟩) (wr_preV (va_P_r hP) (va_D_r hD) hKi rfl (q0 := 0) rfl) rfl rfl hl.1 rfl (lv_room (Nat.le_of_ble_eq_true rfl)) dL_law_742 ⟨(Nat.le_of_ble_eq_true rfl), (Nat.le_of_ble_eq_true rfl)⟩) hP hD hS hA [hm, a0, a1, a3, a5, a6, a8, a12] rfl rfl (fun H locs hP hD hS => ?_)
  have he := e_rest hRR y1 y2
  refine lv_icmp_eq (tgt := 1234) hx hb dL_law_745 (by decide) (fun _ => ?_) (fun q => absurd he.1 q)
  exact kk H locs ⟨sa, sg, tg, tr, ln, fo, ft, fl, fn, ro, tp, tq, ((fX6_rest per rea rn y1 y2).2.1), ((fX6_rest per rea rn y1 y2).2.2), rn, wo, tn, td, rw, wn, od, sr, a0, a1, a3, a5, a6, a8, a12, sn, tu, fm, we, rm, ((fX7_rest rm pm ra y1 y2).2.1), ((fX7_rest rm pm ra y1 y2).2.2), wm, rv, bs, re, ot, cp, ab, be, hh, ⟨hP, hD, hS⟩, hRS, hRF, he.2, hRW, hsb, hb30⟩
set_option maxHeartbeats 4000000 in
set_option maxRecDepth 100000 in
theorem lw_c18 {p : Program} {l : Launch} {e : Env} {s : State} {m : MethodId} {below : List Frame} {meth : Method} {c : Code} {b L : Nat} {xs : Nat → Int32} (C0 : lw_At p s m meth c b L xs) {D : va_G} {cI cS : ClassId} (hK : kI D [(cI, .int), (cS, .object RX5)] s) {i h hm : Nat} {H : Heap} {locs : List Loc} {ls : Array Slot} (S : LWS D cI cS (fun q : Nat => s.heap.size ≤ q) s.heap h hm H locs) (hl : lv_has ls 4 [(0, .ref b), (1, .ref h), (2, .ref hm), (3, .int (nI i))]) (h1 : vp_in (nI i + 1) L) (h2 : vp_in (nI i + 2) L) (kk : ∀ (H : Heap) (locs : List Loc), LWS D cI cS (fun q : Nat => s.heap.size ≤ q) s.heap h hm H locs → W p l e room_1 s m #[Value.ref b] below meth c H locs 600000 7302250 (lw_Z below #[Value.ref b] s) (F0 m 1234 ls [])) : W p l e room_1 s m #[Value.ref b] below meth c H locs 600000 7302250 (lw_Z below #[Value.ref b] s) (F0 m 750 ls []) := by
  obtain ⟨hx, hb, hr, hml, hown, hts, hX, hbl, hlocks, hgv⟩ := C0
  have hts := fun w h => hts w (wsL_law_in w h)
  have hown : s.vm.findClass RL = some m.cls := hown
  have hA : ∀ q : Nat, s.heap.size ≤ q → (fun q : Nat => s.heap.size ≤ q) q := fun _ h => h
  have hbA : ¬ (fun q : Nat => s.heap.size ≤ q) b := Nat.not_le.mpr hbl
  have hKi := hK.sub [0] (tys' := [(cI, .int)]) rfl
  obtain ⟨sa, sg, tg, tr, ln, fo, ft, fl, fn, ro, tp, tq, per, rea, rn, wo, tn, td, rw, wn, od, sr, a0, a1, a3, a5, a6, a8, a12, sn, tu, fm, we, rm, pm, ra, wm, rv, bs, re, ot, cp, ab, be, hh, ⟨hP, hD, hS⟩, hRS, hRF, hRR, hRW, hsb, hb30⟩ := S
  obtain ⟨y1, hy1⟩ : ∃ y : Int32, y = xs (nI i + 1).toNatClampNeg := ⟨_, rfl⟩
  obtain ⟨y2, hy2⟩ : ∃ y : Int32, y = xs (nI i + 2).toNatClampNeg := ⟨_, rfl⟩
  refine lv_aload_n hx hb dL_law_750 rfl (lv_at hl 1 rfl) ?_
  refine lv_aload_n hx hb dL_law_751 rfl (lv_at hl 0 rfl) ?_
  refine lv_iload_n hx hb dL_law_752 rfl (lv_at hl 3 rfl) ?_
  refine lv_iconst (v := 1) hx hb dL_law_753 (by decide) ?_
  refine lv_iadd hx hb dL_law_754 ?_
  refine va_sld hx hb hX hbl hbA hS h1 dL_law_755 ?_
  rw [← hy1]
  refine lv_aload_n hx hb dL_law_756 rfl (lv_at hl 0 rfl) ?_
  refine lv_iload_n hx hb dL_law_757 rfl (lv_at hl 3 rfl) ?_
  refine lv_iconst (v := 2) hx hb dL_law_758 (by decide) ?_
  refine lv_iadd hx hb dL_law_759 ?_
  refine va_sld hx hb hX hbl hbA hS h2 dL_law_760 ?_
  rw [← hy2]
  refine cl_i (va_runV (As := [.int y1, .int y2]) (rest := []) ⟨hx, hb, hml, hown, hts⟩ (c_X6_read l D cI cS H.size h sa sg tg tr ln fo ft fl fn ro tp tq per rea rn wo tn td rw wn od sr y1 y2 hRR.hrn) (cwV 2 hts gL_law_X6_read rfl rfl rfl (by decide +kernel) ⟨(Nat.le_of_ble_eq_true rfl), (Nat.le_of_ble_eq_true rfl)⟩) (wr_preV (va_P_l hP) (va_D_l hD) hK rfl (q0 := 0) rfl) rfl rfl hl.1 rfl (lv_room (Nat.le_of_ble_eq_true rfl)) dL_law_761 ⟨(Nat.le_of_ble_eq_true rfl), (Nat.le_of_ble_eq_true rfl)⟩) hP hD hS hA [h, sa, sg 0, tg 0, sg 1, tg 1, sg 2, tg 2, sg 3, tg 3, sg 4, tg 4, sg 5, tg 5, fo, ft, ro, tp, tq, wo, tn, td] rfl rfl (fun H locs hP hD hS => ?_)
  refine lv_aload_n hx hb dL_law_764 rfl (lv_at hl 2 rfl) ?_
  refine lv_aload_n hx hb dL_law_765 rfl (lv_at hl 0 rfl) ?_
  refine lv_iload_n hx hb dL_law_766 rfl (lv_at hl 3 rfl) ?_
  refine lv_iconst (v := 1) hx hb dL_law_767 (by decide) ?_
  refine lv_iadd hx hb dL_law_768 ?_
  refine va_sld hx hb hX hbl hbA hS h1 dL_law_769 ?_
  rw [← hy1]
  refine lv_aload_n hx hb dL_law_770 rfl (lv_at hl 0 rfl) ?_
  refine lv_iload_n hx hb dL_law_771 rfl (lv_at hl 3 rfl) ?_
  refine lv_iconst (v := 2) hx hb dL_law_772 (by decide) ?_
  refine lv_iadd hx hb dL_law_773 ?_
  refine va_sld hx hb hX hbl hbA hS h2 dL_law_774 ?_
  rw [← hy2]
  refine cr_i (va_runV (As := [.int y1, .int y2]) (rest := [.int ((fX6_read per rea rn y1 y2).1)]) ⟨hx, hb, hml, hown, hts⟩ (c_X7_read l D cI H.size hm a0 a1 a3 a5 a6 a8 a12 sn tu fm we rm pm ra wm rv bs re ot cp ab be hh y1 y2 hRR.hrm) (cwV 2 hts gL_law_X7_read rfl rfl rfl (by decide +kernel) ⟨(Nat.le_of_ble_eq_true rfl), (Nat.le_of_ble_eq_true rfl)⟩) (wr_preV (va_P_r hP) (va_D_r hD) hKi rfl (q0 := 0) rfl) rfl rfl hl.1 rfl (lv_room (Nat.le_of_ble_eq_true rfl)) dL_law_775 ⟨(Nat.le_of_ble_eq_true rfl), (Nat.le_of_ble_eq_true rfl)⟩) hP hD hS hA [hm, a0, a1, a3, a5, a6, a8, a12] rfl rfl (fun H locs hP hD hS => ?_)
  have he := e_read hRR y1 y2
  refine lv_icmp_eq (tgt := 1234) hx hb dL_law_778 (by decide) (fun _ => ?_) (fun q => absurd he.1 q)
  exact kk H locs ⟨sa, sg, tg, tr, ln, fo, ft, fl, fn, ro, tp, tq, per, ((fX6_read per rea rn y1 y2).2), rn, wo, tn, td, rw, wn, od, sr, a0, a1, a3, a5, a6, a8, a12, sn, tu, fm, we, rm, pm, ((fX7_read rm pm ra y1 y2).2), wm, rv, bs, re, ot, cp, ab, be, hh, ⟨hP, hD, hS⟩, hRS, hRF, he.2, hRW, hsb, hb30⟩
set_option maxHeartbeats 4000000 in
set_option maxRecDepth 100000 in
theorem lw_c19 {p : Program} {l : Launch} {e : Env} {s : State} {m : MethodId} {below : List Frame} {meth : Method} {c : Code} {b L : Nat} {xs : Nat → Int32} (C0 : lw_At p s m meth c b L xs) {D : va_G} {cI cS : ClassId} (hK : kI D [(cI, .int), (cS, .object RX5)] s) {i h hm : Nat} {H : Heap} {locs : List Loc} {ls : Array Slot} (S : LWS D cI cS (fun q : Nat => s.heap.size ≤ q) s.heap h hm H locs) (hl : lv_has ls 4 [(0, .ref b), (1, .ref h), (2, .ref hm), (3, .int (nI i))]) (h1 : vp_in (nI i + 1) L) (kk : ∀ (H : Heap) (locs : List Loc), LWS D cI cS (fun q : Nat => s.heap.size ≤ q) s.heap h hm H locs → W p l e room_1 s m #[Value.ref b] below meth c H locs 600000 7302250 (lw_Z below #[Value.ref b] s) (F0 m 1234 ls [])) : W p l e room_1 s m #[Value.ref b] below meth c H locs 600000 7302250 (lw_Z below #[Value.ref b] s) (F0 m 783 ls []) := by
  obtain ⟨hx, hb, hr, hml, hown, hts, hX, hbl, hlocks, hgv⟩ := C0
  have hts := fun w h => hts w (wsL_law_in w h)
  have hown : s.vm.findClass RL = some m.cls := hown
  have hA : ∀ q : Nat, s.heap.size ≤ q → (fun q : Nat => s.heap.size ≤ q) q := fun _ h => h
  have hbA : ¬ (fun q : Nat => s.heap.size ≤ q) b := Nat.not_le.mpr hbl
  have hKi := hK.sub [0] (tys' := [(cI, .int)]) rfl
  obtain ⟨sa, sg, tg, tr, ln, fo, ft, fl, fn, ro, tp, tq, per, rea, rn, wo, tn, td, rw, wn, od, sr, a0, a1, a3, a5, a6, a8, a12, sn, tu, fm, we, rm, pm, ra, wm, rv, bs, re, ot, cp, ab, be, hh, ⟨hP, hD, hS⟩, hRS, hRF, hRR, hRW, hsb, hb30⟩ := S
  obtain ⟨y1, hy1⟩ : ∃ y : Int32, y = xs (nI i + 1).toNatClampNeg := ⟨_, rfl⟩
  refine lv_aload_n hx hb dL_law_783 rfl (lv_at hl 1 rfl) ?_
  refine lv_aload_n hx hb dL_law_784 rfl (lv_at hl 0 rfl) ?_
  refine lv_iload_n hx hb dL_law_785 rfl (lv_at hl 3 rfl) ?_
  refine lv_iconst (v := 1) hx hb dL_law_786 (by decide) ?_
  refine lv_iadd hx hb dL_law_787 ?_
  refine va_sld hx hb hX hbl hbA hS h1 dL_law_788 ?_
  rw [← hy1]
  refine cl_i (va_runV (As := [.int y1]) (rest := []) ⟨hx, hb, hml, hown, hts⟩ (c_X6_fold l D cI cS H.size h sa sg tg tr ln fo ft fl fn ro tp tq per rea rn wo tn td rw wn od sr y1 hRR.hrn hRR.hper) (cwV 1 hts gL_law_X6_fold rfl rfl rfl (by decide +kernel) ⟨(Nat.le_of_ble_eq_true rfl), (Nat.le_of_ble_eq_true rfl)⟩) (wr_preV (va_P_l hP) (va_D_l hD) hK rfl (q0 := 0) rfl) rfl rfl hl.1 rfl (lv_room (Nat.le_of_ble_eq_true rfl)) dL_law_789 ⟨(Nat.le_of_ble_eq_true rfl), (Nat.le_of_ble_eq_true rfl)⟩) hP hD hS hA [h, sa, sg 0, tg 0, sg 1, tg 1, sg 2, tg 2, sg 3, tg 3, sg 4, tg 4, sg 5, tg 5, fo, ft, ro, tp, tq, wo, tn, td] rfl rfl (fun H locs hP hD hS => ?_)
  refine lv_aload_n hx hb dL_law_792 rfl (lv_at hl 2 rfl) ?_
  refine lv_aload_n hx hb dL_law_793 rfl (lv_at hl 0 rfl) ?_
  refine lv_iload_n hx hb dL_law_794 rfl (lv_at hl 3 rfl) ?_
  refine lv_iconst (v := 1) hx hb dL_law_795 (by decide) ?_
  refine lv_iadd hx hb dL_law_796 ?_
  refine va_sld hx hb hX hbl hbA hS h1 dL_law_797 ?_
  rw [← hy1]
  refine cr_i (va_runV (As := [.int y1]) (rest := [.int ((fX6_fold per rea rn y1).1)]) ⟨hx, hb, hml, hown, hts⟩ (c_X7_fold l D cI H.size hm a0 a1 a3 a5 a6 a8 a12 sn tu fm we rm pm ra wm rv bs re ot cp ab be hh y1 hRR.hrm hRR.hpm) (cwV 1 hts gL_law_X7_fold rfl rfl rfl (by decide +kernel) ⟨(Nat.le_of_ble_eq_true rfl), (Nat.le_of_ble_eq_true rfl)⟩) (wr_preV (va_P_r hP) (va_D_r hD) hKi rfl (q0 := 0) rfl) rfl rfl hl.1 rfl (lv_room (Nat.le_of_ble_eq_true rfl)) dL_law_798 ⟨(Nat.le_of_ble_eq_true rfl), (Nat.le_of_ble_eq_true rfl)⟩) hP hD hS hA [hm, a0, a1, a3, a5, a6, a8, a12] rfl rfl (fun H locs hP hD hS => ?_)
  have he := e_fold hRR y1
  refine lv_icmp_eq (tgt := 1234) hx hb dL_law_801 (by decide) (fun _ => ?_) (fun q => absurd he.1 q)
  exact kk H locs ⟨sa, sg, tg, tr, ln, fo, ft, fl, fn, ro, tp, tq, per, ((fX6_fold per rea rn y1).2), rn, wo, tn, td, rw, wn, od, sr, a0, a1, a3, a5, a6, a8, a12, sn, tu, fm, we, rm, pm, ((fX7_fold rm pm ra y1).2), wm, rv, bs, re, ot, cp, ab, be, hh, ⟨hP, hD, hS⟩, hRS, hRF, he.2, hRW, hsb, hb30⟩
set_option maxHeartbeats 4000000 in
set_option maxRecDepth 100000 in
theorem lw_c20 {p : Program} {l : Launch} {e : Env} {s : State} {m : MethodId} {below : List Frame} {meth : Method} {c : Code} {b L : Nat} {xs : Nat → Int32} (C0 : lw_At p s m meth c b L xs) {D : va_G} {cI cS : ClassId} (hK : kI D [(cI, .int), (cS, .object RX5)] s) {i h hm : Nat} {H : Heap} {locs : List Loc} {ls : Array Slot} (S : LWS D cI cS (fun q : Nat => s.heap.size ≤ q) s.heap h hm H locs) (hl : lv_has ls 4 [(0, .ref b), (1, .ref h), (2, .ref hm), (3, .int (nI i))]) (h1 : vp_in (nI i + 1) L) (h2 : vp_in (nI i + 2) L) (h3 : vp_in (nI i + 3) L) (kk : ∀ (H : Heap) (locs : List Loc), LWS D cI cS (fun q : Nat => s.heap.size ≤ q) s.heap h hm H locs → W p l e room_1 s m #[Value.ref b] below meth c H locs 600000 7302250 (lw_Z below #[Value.ref b] s) (F0 m 1234 ls [])) : W p l e room_1 s m #[Value.ref b] below meth c H locs 600000 7302250 (lw_Z below #[Value.ref b] s) (F0 m 806 ls []) := by
  obtain ⟨hx, hb, hr, hml, hown, hts, hX, hbl, hlocks, hgv⟩ := C0
  have hts := fun w h => hts w (wsL_law_in w h)
  have hown : s.vm.findClass RL = some m.cls := hown
  have hA : ∀ q : Nat, s.heap.size ≤ q → (fun q : Nat => s.heap.size ≤ q) q := fun _ h => h
  have hbA : ¬ (fun q : Nat => s.heap.size ≤ q) b := Nat.not_le.mpr hbl
  have hKi := hK.sub [0] (tys' := [(cI, .int)]) rfl
  obtain ⟨sa, sg, tg, tr, ln, fo, ft, fl, fn, ro, tp, tq, per, rea, rn, wo, tn, td, rw, wn, od, sr, a0, a1, a3, a5, a6, a8, a12, sn, tu, fm, we, rm, pm, ra, wm, rv, bs, re, ot, cp, ab, be, hh, ⟨hP, hD, hS⟩, hRS, hRF, hRR, hRW, hsb, hb30⟩ := S
  obtain ⟨y1, hy1⟩ : ∃ y : Int32, y = xs (nI i + 1).toNatClampNeg := ⟨_, rfl⟩
  obtain ⟨y2, hy2⟩ : ∃ y : Int32, y = xs (nI i + 2).toNatClampNeg := ⟨_, rfl⟩
  obtain ⟨y3, hy3⟩ : ∃ y : Int32, y = xs (nI i + 3).toNatClampNeg := ⟨_, rfl⟩
  refine lv_aload_n hx hb dL_law_806 rfl (lv_at hl 1 rfl) ?_
  refine lv_aload_n hx hb dL_law_807 rfl (lv_at hl 0 rfl) ?_
  refine lv_iload_n hx hb dL_law_808 rfl (lv_at hl 3 rfl) ?_
  refine lv_iconst (v := 1) hx hb dL_law_809 (by decide) ?_
  refine lv_iadd hx hb dL_law_810 ?_
  refine va_sld hx hb hX hbl hbA hS h1 dL_law_811 ?_
  rw [← hy1]
  refine lv_aload_n hx hb dL_law_812 rfl (lv_at hl 0 rfl) ?_
  refine lv_iload_n hx hb dL_law_813 rfl (lv_at hl 3 rfl) ?_
  refine lv_iconst (v := 2) hx hb dL_law_814 (by decide) ?_
  refine lv_iadd hx hb dL_law_815 ?_
  refine va_sld hx hb hX hbl hbA hS h2 dL_law_816 ?_
  rw [← hy2]
  refine lv_aload_n hx hb dL_law_817 rfl (lv_at hl 0 rfl) ?_
  refine lv_iload_n hx hb dL_law_818 rfl (lv_at hl 3 rfl) ?_
  refine lv_iconst (v := 3) hx hb dL_law_819 (by decide) ?_
  refine lv_iadd hx hb dL_law_820 ?_
  refine va_sld hx hb hX hbl hbA hS h3 dL_law_821 ?_
  rw [← hy3]
  refine cs_i (va_runV (As := [.int y1, .int y2, .int y3]) (rest := []) ⟨hx, hb, hml, hown, hts⟩ (c_X6_unfold l D cI cS h sa sg tg tr ln fo ft fl fn ro tp tq per rea rn wo tn td rw wn od sr y1 y2 y3 hRR.hrn hRR.hper) (cwV 3 hts gL_law_X6_unfold rfl rfl rfl (by decide +kernel) ⟨(Nat.le_of_ble_eq_true rfl), (Nat.le_of_ble_eq_true rfl)⟩) (ro_preV (va_P_l hP) hK rfl (q0 := 0) rfl) rfl rfl hl.1 rfl (lv_room (Nat.le_of_ble_eq_true rfl)) dL_law_822 ⟨(Nat.le_of_ble_eq_true rfl), (Nat.le_of_ble_eq_true rfl)⟩) ?_
  refine lv_aload_n hx hb dL_law_825 rfl (lv_at hl 2 rfl) ?_
  refine lv_aload_n hx hb dL_law_826 rfl (lv_at hl 0 rfl) ?_
  refine lv_iload_n hx hb dL_law_827 rfl (lv_at hl 3 rfl) ?_
  refine lv_iconst (v := 1) hx hb dL_law_828 (by decide) ?_
  refine lv_iadd hx hb dL_law_829 ?_
  refine va_sld hx hb hX hbl hbA hS h1 dL_law_830 ?_
  rw [← hy1]
  refine lv_aload_n hx hb dL_law_831 rfl (lv_at hl 0 rfl) ?_
  refine lv_iload_n hx hb dL_law_832 rfl (lv_at hl 3 rfl) ?_
  refine lv_iconst (v := 2) hx hb dL_law_833 (by decide) ?_
  refine lv_iadd hx hb dL_law_834 ?_
  refine va_sld hx hb hX hbl hbA hS h2 dL_law_835 ?_
  rw [← hy2]
  refine lv_aload_n hx hb dL_law_836 rfl (lv_at hl 0 rfl) ?_
  refine lv_iload_n hx hb dL_law_837 rfl (lv_at hl 3 rfl) ?_
  refine lv_iconst (v := 3) hx hb dL_law_838 (by decide) ?_
  refine lv_iadd hx hb dL_law_839 ?_
  refine va_sld hx hb hX hbl hbA hS h3 dL_law_840 ?_
  rw [← hy3]
  refine cs_i (va_runV (As := [.int y1, .int y2, .int y3]) (rest := [.int (fX6_unfold per rea rn y1 y2 y3)]) ⟨hx, hb, hml, hown, hts⟩ (c_X7_unfold l D cI hm a0 a1 a3 a5 a6 a8 a12 sn tu fm we rm pm ra wm rv bs re ot cp ab be hh y1 y2 y3 hRR.hrm hRR.hpm) (cwV 3 hts gL_law_X7_unfold rfl rfl rfl (by decide +kernel) ⟨(Nat.le_of_ble_eq_true rfl), (Nat.le_of_ble_eq_true rfl)⟩) (ro_preV (va_P_r hP) hKi rfl (q0 := 0) rfl) rfl rfl hl.1 rfl (lv_room (Nat.le_of_ble_eq_true rfl)) dL_law_841 ⟨(Nat.le_of_ble_eq_true rfl), (Nat.le_of_ble_eq_true rfl)⟩) ?_
  have he := e_unfold hRR y1 y2 y3
  refine lv_icmp_eq (tgt := 1234) hx hb dL_law_844 (by decide) (fun _ => ?_) (fun q => absurd he q)
  exact kk H locs ⟨sa, sg, tg, tr, ln, fo, ft, fl, fn, ro, tp, tq, per, rea, rn, wo, tn, td, rw, wn, od, sr, a0, a1, a3, a5, a6, a8, a12, sn, tu, fm, we, rm, pm, ra, wm, rv, bs, re, ot, cp, ab, be, hh, ⟨hP, hD, hS⟩, hRS, hRF, hRR, hRW, hsb, hb30⟩
set_option maxHeartbeats 4000000 in
set_option maxRecDepth 100000 in
theorem lw_c21 {p : Program} {l : Launch} {e : Env} {s : State} {m : MethodId} {below : List Frame} {meth : Method} {c : Code} {b L : Nat} {xs : Nat → Int32} (C0 : lw_At p s m meth c b L xs) {D : va_G} {cI cS : ClassId} (hK : kI D [(cI, .int), (cS, .object RX5)] s) {i h hm : Nat} {H : Heap} {locs : List Loc} {ls : Array Slot} (S : LWS D cI cS (fun q : Nat => s.heap.size ≤ q) s.heap h hm H locs) (hl : lv_has ls 4 [(0, .ref b), (1, .ref h), (2, .ref hm), (3, .int (nI i))]) (h1 : vp_in (nI i + 1) L) (h2 : vp_in (nI i + 2) L) (h3 : vp_in (nI i + 3) L) (h4 : vp_in (nI i + 4) L) (kk : ∀ (H : Heap) (locs : List Loc), LWS D cI cS (fun q : Nat => s.heap.size ≤ q) s.heap h hm H locs → W p l e room_1 s m #[Value.ref b] below meth c H locs 600000 7302250 (lw_Z below #[Value.ref b] s) (F0 m 1234 ls [])) : W p l e room_1 s m #[Value.ref b] below meth c H locs 600000 7302250 (lw_Z below #[Value.ref b] s) (F0 m 849 ls []) := by
  obtain ⟨hx, hb, hr, hml, hown, hts, hX, hbl, hlocks, hgv⟩ := C0
  have hts := fun w h => hts w (wsL_law_in w h)
  have hown : s.vm.findClass RL = some m.cls := hown
  have hA : ∀ q : Nat, s.heap.size ≤ q → (fun q : Nat => s.heap.size ≤ q) q := fun _ h => h
  have hbA : ¬ (fun q : Nat => s.heap.size ≤ q) b := Nat.not_le.mpr hbl
  have hKi := hK.sub [0] (tys' := [(cI, .int)]) rfl
  obtain ⟨sa, sg, tg, tr, ln, fo, ft, fl, fn, ro, tp, tq, per, rea, rn, wo, tn, td, rw, wn, od, sr, a0, a1, a3, a5, a6, a8, a12, sn, tu, fm, we, rm, pm, ra, wm, rv, bs, re, ot, cp, ab, be, hh, ⟨hP, hD, hS⟩, hRS, hRF, hRR, hRW, hsb, hb30⟩ := S
  obtain ⟨y1, hy1⟩ : ∃ y : Int32, y = xs (nI i + 1).toNatClampNeg := ⟨_, rfl⟩
  obtain ⟨y2, hy2⟩ : ∃ y : Int32, y = xs (nI i + 2).toNatClampNeg := ⟨_, rfl⟩
  obtain ⟨y3, hy3⟩ : ∃ y : Int32, y = xs (nI i + 3).toNatClampNeg := ⟨_, rfl⟩
  obtain ⟨y4, hy4⟩ : ∃ y : Int32, y = xs (nI i + 4).toNatClampNeg := ⟨_, rfl⟩
  refine lv_aload_n hx hb dL_law_849 rfl (lv_at hl 1 rfl) ?_
  refine lv_aload_n hx hb dL_law_850 rfl (lv_at hl 0 rfl) ?_
  refine lv_iload_n hx hb dL_law_851 rfl (lv_at hl 3 rfl) ?_
  refine lv_iconst (v := 1) hx hb dL_law_852 (by decide) ?_
  refine lv_iadd hx hb dL_law_853 ?_
  refine va_sld hx hb hX hbl hbA hS h1 dL_law_854 ?_
  rw [← hy1]
  refine lv_aload_n hx hb dL_law_855 rfl (lv_at hl 0 rfl) ?_
  refine lv_iload_n hx hb dL_law_856 rfl (lv_at hl 3 rfl) ?_
  refine lv_iconst (v := 2) hx hb dL_law_857 (by decide) ?_
  refine lv_iadd hx hb dL_law_858 ?_
  refine va_sld hx hb hX hbl hbA hS h2 dL_law_859 ?_
  rw [← hy2]
  refine lv_aload_n hx hb dL_law_860 rfl (lv_at hl 0 rfl) ?_
  refine lv_iload_n hx hb dL_law_861 rfl (lv_at hl 3 rfl) ?_
  refine lv_iconst (v := 3) hx hb dL_law_862 (by decide) ?_
  refine lv_iadd hx hb dL_law_863 ?_
  refine va_sld hx hb hX hbl hbA hS h3 dL_law_864 ?_
  rw [← hy3]
  refine lv_aload_n hx hb dL_law_865 rfl (lv_at hl 0 rfl) ?_
  refine lv_iload_n hx hb dL_law_866 rfl (lv_at hl 3 rfl) ?_
  refine lv_iconst (v := 4) hx hb dL_law_867 (by decide) ?_
  refine lv_iadd hx hb dL_law_868 ?_
  refine va_sld hx hb hX hbl hbA hS h4 dL_law_869 ?_
  rw [← hy4]
  refine cs_i (va_runV (As := [.int y1, .int y2, .int y3, .int y4]) (rest := []) ⟨hx, hb, hml, hown, hts⟩ (c_X6_unfolded l D cI cS h sa sg tg tr ln fo ft fl fn ro tp tq per rea rn wo tn td rw wn od sr y1 y2 y3 y4 hRR.hrn hRR.hper) (cwV 4 hts gL_law_X6_unfolded rfl rfl rfl (by decide +kernel) ⟨(Nat.le_of_ble_eq_true rfl), (Nat.le_of_ble_eq_true rfl)⟩) (ro_preV (va_P_l hP) hK rfl (q0 := 0) rfl) rfl rfl hl.1 rfl (lv_room (Nat.le_of_ble_eq_true rfl)) dL_law_870 ⟨(Nat.le_of_ble_eq_true rfl), (Nat.le_of_ble_eq_true rfl)⟩) ?_
  refine lv_aload_n hx hb dL_law_873 rfl (lv_at hl 2 rfl) ?_
  refine lv_aload_n hx hb dL_law_874 rfl (lv_at hl 0 rfl) ?_
  refine lv_iload_n hx hb dL_law_875 rfl (lv_at hl 3 rfl) ?_
  refine lv_iconst (v := 1) hx hb dL_law_876 (by decide) ?_
  refine lv_iadd hx hb dL_law_877 ?_
  refine va_sld hx hb hX hbl hbA hS h1 dL_law_878 ?_
  rw [← hy1]
  refine lv_aload_n hx hb dL_law_879 rfl (lv_at hl 0 rfl) ?_
  refine lv_iload_n hx hb dL_law_880 rfl (lv_at hl 3 rfl) ?_
  refine lv_iconst (v := 2) hx hb dL_law_881 (by decide) ?_
  refine lv_iadd hx hb dL_law_882 ?_
  refine va_sld hx hb hX hbl hbA hS h2 dL_law_883 ?_
  rw [← hy2]
  refine lv_aload_n hx hb dL_law_884 rfl (lv_at hl 0 rfl) ?_
  refine lv_iload_n hx hb dL_law_885 rfl (lv_at hl 3 rfl) ?_
  refine lv_iconst (v := 3) hx hb dL_law_886 (by decide) ?_
  refine lv_iadd hx hb dL_law_887 ?_
  refine va_sld hx hb hX hbl hbA hS h3 dL_law_888 ?_
  rw [← hy3]
  refine lv_aload_n hx hb dL_law_889 rfl (lv_at hl 0 rfl) ?_
  refine lv_iload_n hx hb dL_law_890 rfl (lv_at hl 3 rfl) ?_
  refine lv_iconst (v := 4) hx hb dL_law_891 (by decide) ?_
  refine lv_iadd hx hb dL_law_892 ?_
  refine va_sld hx hb hX hbl hbA hS h4 dL_law_893 ?_
  rw [← hy4]
  refine cs_i (va_runV (As := [.int y1, .int y2, .int y3, .int y4]) (rest := [.int (fX6_unfolded per rea rn y1 y2 y3 y4)]) ⟨hx, hb, hml, hown, hts⟩ (c_X7_unfolded l D cI hm a0 a1 a3 a5 a6 a8 a12 sn tu fm we rm pm ra wm rv bs re ot cp ab be hh y1 y2 y3 y4 hRR.hrm hRR.hpm) (cwV 4 hts gL_law_X7_unfolded rfl rfl rfl (by decide +kernel) ⟨(Nat.le_of_ble_eq_true rfl), (Nat.le_of_ble_eq_true rfl)⟩) (ro_preV (va_P_r hP) hKi rfl (q0 := 0) rfl) rfl rfl hl.1 rfl (lv_room (Nat.le_of_ble_eq_true rfl)) dL_law_894 ⟨(Nat.le_of_ble_eq_true rfl), (Nat.le_of_ble_eq_true rfl)⟩) ?_
  have he := e_unfolded hRR y1 y2 y3 y4
  refine lv_icmp_eq (tgt := 1234) hx hb dL_law_897 (by decide) (fun _ => ?_) (fun q => absurd he q)
  exact kk H locs ⟨sa, sg, tg, tr, ln, fo, ft, fl, fn, ro, tp, tq, per, rea, rn, wo, tn, td, rw, wn, od, sr, a0, a1, a3, a5, a6, a8, a12, sn, tu, fm, we, rm, pm, ra, wm, rv, bs, re, ot, cp, ab, be, hh, ⟨hP, hD, hS⟩, hRS, hRF, hRR, hRW, hsb, hb30⟩
set_option maxHeartbeats 4000000 in
set_option maxRecDepth 100000 in
theorem lw_c22 {p : Program} {l : Launch} {e : Env} {s : State} {m : MethodId} {below : List Frame} {meth : Method} {c : Code} {b L : Nat} {xs : Nat → Int32} (C0 : lw_At p s m meth c b L xs) {D : va_G} {cI cS : ClassId} (hK : kI D [(cI, .int), (cS, .object RX5)] s) {i h hm : Nat} {H : Heap} {locs : List Loc} {ls : Array Slot} (S : LWS D cI cS (fun q : Nat => s.heap.size ≤ q) s.heap h hm H locs) (hl : lv_has ls 4 [(0, .ref b), (1, .ref h), (2, .ref hm), (3, .int (nI i))])  (kk : ∀ (H : Heap) (locs : List Loc), LWS D cI cS (fun q : Nat => s.heap.size ≤ q) s.heap h hm H locs → W p l e room_1 s m #[Value.ref b] below meth c H locs 600000 7302250 (lw_Z below #[Value.ref b] s) (F0 m 1234 ls [])) : W p l e room_1 s m #[Value.ref b] below meth c H locs 600000 7302250 (lw_Z below #[Value.ref b] s) (F0 m 902 ls []) := by
  obtain ⟨hx, hb, hr, hml, hown, hts, hX, hbl, hlocks, hgv⟩ := C0
  have hts := fun w h => hts w (wsL_law_in w h)
  have hown : s.vm.findClass RL = some m.cls := hown
  have hA : ∀ q : Nat, s.heap.size ≤ q → (fun q : Nat => s.heap.size ≤ q) q := fun _ h => h
  have hbA : ¬ (fun q : Nat => s.heap.size ≤ q) b := Nat.not_le.mpr hbl
  have hKi := hK.sub [0] (tys' := [(cI, .int)]) rfl
  obtain ⟨sa, sg, tg, tr, ln, fo, ft, fl, fn, ro, tp, tq, per, rea, rn, wo, tn, td, rw, wn, od, sr, a0, a1, a3, a5, a6, a8, a12, sn, tu, fm, we, rm, pm, ra, wm, rv, bs, re, ot, cp, ab, be, hh, ⟨hP, hD, hS⟩, hRS, hRF, hRR, hRW, hsb, hb30⟩ := S
  refine lv_aload_n hx hb dL_law_902 rfl (lv_at hl 1 rfl) ?_
  refine cs_i (va_runV (As := []) (rest := []) ⟨hx, hb, hml, hown, hts⟩ (c_X6_common l D cI cS h sa sg tg tr ln fo ft fl fn ro tp tq per rea rn wo tn td rw wn od sr  hRR.hrn hRR.hper (hdv_of hRR)) (cwV 0 hts gL_law_X6_common rfl rfl rfl (by decide +kernel) ⟨(Nat.le_of_ble_eq_true rfl), (Nat.le_of_ble_eq_true rfl)⟩) (ro_preV (va_P_l hP) hK rfl (q0 := 0) rfl) rfl rfl hl.1 rfl (lv_room (Nat.le_of_ble_eq_true rfl)) dL_law_903 ⟨(Nat.le_of_ble_eq_true rfl), (Nat.le_of_ble_eq_true rfl)⟩) ?_
  refine lv_aload_n hx hb dL_law_906 rfl (lv_at hl 2 rfl) ?_
  refine cs_i (va_runV (As := []) (rest := [.int (fX6_common per rn)]) ⟨hx, hb, hml, hown, hts⟩ (c_X7_common l D cI hm a0 a1 a3 a5 a6 a8 a12 sn tu fm we rm pm ra wm rv bs re ot cp ab be hh  hRR.hrm hRR.hpm) (cwV 0 hts gL_law_X7_common rfl rfl rfl (by decide +kernel) ⟨(Nat.le_of_ble_eq_true rfl), (Nat.le_of_ble_eq_true rfl)⟩) (ro_preV (va_P_r hP) hKi rfl (q0 := 0) rfl) rfl rfl hl.1 rfl (lv_room (Nat.le_of_ble_eq_true rfl)) dL_law_907 ⟨(Nat.le_of_ble_eq_true rfl), (Nat.le_of_ble_eq_true rfl)⟩) ?_
  have he := e_common hRR 
  refine lv_icmp_eq (tgt := 1234) hx hb dL_law_910 (by decide) (fun _ => ?_) (fun q => absurd he q)
  exact kk H locs ⟨sa, sg, tg, tr, ln, fo, ft, fl, fn, ro, tp, tq, per, rea, rn, wo, tn, td, rw, wn, od, sr, a0, a1, a3, a5, a6, a8, a12, sn, tu, fm, we, rm, pm, ra, wm, rv, bs, re, ot, cp, ab, be, hh, ⟨hP, hD, hS⟩, hRS, hRF, hRR, hRW, hsb, hb30⟩
set_option maxHeartbeats 4000000 in
set_option maxRecDepth 100000 in
theorem lw_c23 {p : Program} {l : Launch} {e : Env} {s : State} {m : MethodId} {below : List Frame} {meth : Method} {c : Code} {b L : Nat} {xs : Nat → Int32} (C0 : lw_At p s m meth c b L xs) {D : va_G} {cI cS : ClassId} (hK : kI D [(cI, .int), (cS, .object RX5)] s) {i h hm : Nat} {H : Heap} {locs : List Loc} {ls : Array Slot} (S : LWS D cI cS (fun q : Nat => s.heap.size ≤ q) s.heap h hm H locs) (hl : lv_has ls 4 [(0, .ref b), (1, .ref h), (2, .ref hm), (3, .int (nI i))]) (h1 : vp_in (nI i + 1) L) (h2 : vp_in (nI i + 2) L) (kk : ∀ (H : Heap) (locs : List Loc), LWS D cI cS (fun q : Nat => s.heap.size ≤ q) s.heap h hm H locs → W p l e room_1 s m #[Value.ref b] below meth c H locs 600000 7302250 (lw_Z below #[Value.ref b] s) (F0 m 1234 ls [])) : W p l e room_1 s m #[Value.ref b] below meth c H locs 600000 7302250 (lw_Z below #[Value.ref b] s) (F0 m 915 ls []) := by
  obtain ⟨hx, hb, hr, hml, hown, hts, hX, hbl, hlocks, hgv⟩ := C0
  have hts := fun w h => hts w (wsL_law_in w h)
  have hown : s.vm.findClass RL = some m.cls := hown
  have hA : ∀ q : Nat, s.heap.size ≤ q → (fun q : Nat => s.heap.size ≤ q) q := fun _ h => h
  have hbA : ¬ (fun q : Nat => s.heap.size ≤ q) b := Nat.not_le.mpr hbl
  have hKi := hK.sub [0] (tys' := [(cI, .int)]) rfl
  obtain ⟨sa, sg, tg, tr, ln, fo, ft, fl, fn, ro, tp, tq, per, rea, rn, wo, tn, td, rw, wn, od, sr, a0, a1, a3, a5, a6, a8, a12, sn, tu, fm, we, rm, pm, ra, wm, rv, bs, re, ot, cp, ab, be, hh, ⟨hP, hD, hS⟩, hRS, hRF, hRR, hRW, hsb, hb30⟩ := S
  obtain ⟨y1, hy1⟩ : ∃ y : Int32, y = xs (nI i + 1).toNatClampNeg := ⟨_, rfl⟩
  obtain ⟨y2, hy2⟩ : ∃ y : Int32, y = xs (nI i + 2).toNatClampNeg := ⟨_, rfl⟩
  refine lv_aload_n hx hb dL_law_915 rfl (lv_at hl 1 rfl) ?_
  refine lv_aload_n hx hb dL_law_916 rfl (lv_at hl 0 rfl) ?_
  refine lv_iload_n hx hb dL_law_917 rfl (lv_at hl 3 rfl) ?_
  refine lv_iconst (v := 1) hx hb dL_law_918 (by decide) ?_
  refine lv_iadd hx hb dL_law_919 ?_
  refine va_sld hx hb hX hbl hbA hS h1 dL_law_920 ?_
  rw [← hy1]
  refine lv_aload_n hx hb dL_law_921 rfl (lv_at hl 0 rfl) ?_
  refine lv_iload_n hx hb dL_law_922 rfl (lv_at hl 3 rfl) ?_
  refine lv_iconst (v := 2) hx hb dL_law_923 (by decide) ?_
  refine lv_iadd hx hb dL_law_924 ?_
  refine va_sld hx hb hX hbl hbA hS h2 dL_law_925 ?_
  rw [← hy2]
  refine cs_i (va_runV (As := [.int y1, .int y2]) (rest := []) ⟨hx, hb, hml, hown, hts⟩ (c_X6_blind l D cI cS h sa sg tg tr ln fo ft fl fn ro tp tq per rea rn wo tn td rw wn od sr y1 y2 hRR.hrn hRR.hper) (cwV 2 hts gL_law_X6_blind rfl rfl rfl (by decide +kernel) ⟨(Nat.le_of_ble_eq_true rfl), (Nat.le_of_ble_eq_true rfl)⟩) (ro_preV (va_P_l hP) hK rfl (q0 := 0) rfl) rfl rfl hl.1 rfl (lv_room (Nat.le_of_ble_eq_true rfl)) dL_law_926 ⟨(Nat.le_of_ble_eq_true rfl), (Nat.le_of_ble_eq_true rfl)⟩) ?_
  refine lv_aload_n hx hb dL_law_929 rfl (lv_at hl 2 rfl) ?_
  refine lv_aload_n hx hb dL_law_930 rfl (lv_at hl 0 rfl) ?_
  refine lv_iload_n hx hb dL_law_931 rfl (lv_at hl 3 rfl) ?_
  refine lv_iconst (v := 1) hx hb dL_law_932 (by decide) ?_
  refine lv_iadd hx hb dL_law_933 ?_
  refine va_sld hx hb hX hbl hbA hS h1 dL_law_934 ?_
  rw [← hy1]
  refine lv_aload_n hx hb dL_law_935 rfl (lv_at hl 0 rfl) ?_
  refine lv_iload_n hx hb dL_law_936 rfl (lv_at hl 3 rfl) ?_
  refine lv_iconst (v := 2) hx hb dL_law_937 (by decide) ?_
  refine lv_iadd hx hb dL_law_938 ?_
  refine va_sld hx hb hX hbl hbA hS h2 dL_law_939 ?_
  rw [← hy2]
  refine cs_i (va_runV (As := [.int y1, .int y2]) (rest := [.int (fX6_blind per rn y1 y2)]) ⟨hx, hb, hml, hown, hts⟩ (c_X7_blind l D cI hm a0 a1 a3 a5 a6 a8 a12 sn tu fm we rm pm ra wm rv bs re ot cp ab be hh y1 y2 hRR.hrm hRR.hpm) (cwV 2 hts gL_law_X7_blind rfl rfl rfl (by decide +kernel) ⟨(Nat.le_of_ble_eq_true rfl), (Nat.le_of_ble_eq_true rfl)⟩) (ro_preV (va_P_r hP) hKi rfl (q0 := 0) rfl) rfl rfl hl.1 rfl (lv_room (Nat.le_of_ble_eq_true rfl)) dL_law_940 ⟨(Nat.le_of_ble_eq_true rfl), (Nat.le_of_ble_eq_true rfl)⟩) ?_
  have he := e_blind hRR y1 y2
  refine lv_icmp_eq (tgt := 1234) hx hb dL_law_943 (by decide) (fun _ => ?_) (fun q => absurd he q)
  exact kk H locs ⟨sa, sg, tg, tr, ln, fo, ft, fl, fn, ro, tp, tq, per, rea, rn, wo, tn, td, rw, wn, od, sr, a0, a1, a3, a5, a6, a8, a12, sn, tu, fm, we, rm, pm, ra, wm, rv, bs, re, ot, cp, ab, be, hh, ⟨hP, hD, hS⟩, hRS, hRF, hRR, hRW, hsb, hb30⟩
