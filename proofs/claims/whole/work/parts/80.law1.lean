set_option maxHeartbeats 4000000 in
set_option maxRecDepth 100000 in
theorem lw_c8 {p : Program} {l : Launch} {e : Env} {s : State} {m : MethodId} {below : List Frame} {meth : Method} {c : Code} {b L : Nat} {xs : Nat → Int32} (C0 : lw_At p s m meth c b L xs) {D : va_G} {cI cS : ClassId} (hK : kI D [(cI, .int), (cS, .object RX5)] s) {i h hm : Nat} {H : Heap} {locs : List Loc} {ls : Array Slot} (S : LWS D cI cS (fun q : Nat => s.heap.size ≤ q) s.heap h hm H locs) (hl : lv_has ls 4 [(0, .ref b), (1, .ref h), (2, .ref hm), (3, .int (nI i))]) (h1 : vp_in (nI i + 1) L) (h2 : vp_in (nI i + 2) L) (kk : ∀ (H : Heap) (locs : List Loc), LWS D cI cS (fun q : Nat => s.heap.size ≤ q) s.heap h hm H locs → W p l e room_1 s m #[Value.ref b] below meth c H locs 600000 7302250 (lw_Z below #[Value.ref b] s) (F0 m 1234 ls [])) : W p l e room_1 s m #[Value.ref b] below meth c H locs 600000 7302250 (lw_Z below #[Value.ref b] s) (F0 m 460 ls []) := by
  obtain ⟨hx, hb, hr, hml, hown, hts, hX, hbl, hlocks, hgv⟩ := C0
  have hts := fun w h => hts w (wsL_law_in w h)
  have hown : s.vm.findClass RL = some m.cls := hown
  have hA : ∀ q : Nat, s.heap.size ≤ q → (fun q : Nat => s.heap.size ≤ q) q := fun _ h => h
  have hbA : ¬ (fun q : Nat => s.heap.size ≤ q) b := Nat.not_le.mpr hbl
  have hKi := hK.sub [0] (tys' := [(cI, .int)]) rfl
  obtain ⟨sa, sg, tg, tr, ln, fo, ft, fl, fn, ro, tp, tq, per, rea, rn, wo, tn, td, rw, wn, od, sr, a0, a1, a3, a5, a6, a8, a12, sn, tu, fm, we, rm, pm, ra, wm, rv, bs, re, ot, cp, ab, be, hh, ⟨hP, hD, hS⟩, hRS, hRF, hRR, hRW, hsb, hb30⟩ := S
  obtain ⟨y1, hy1⟩ : ∃ y : Int32, y = xs (nI i + 1).toNatClampNeg := ⟨_, rfl⟩
  obtain ⟨y2, hy2⟩ : ∃ y : Int32, y = xs (nI i + 2).toNatClampNeg := ⟨_, rfl⟩
  refine lv_aload_n hx hb dL_law_460 rfl (lv_at hl 1 rfl) ?_
  refine lv_aload_n hx hb dL_law_461 rfl (lv_at hl 0 rfl) ?_
  refine lv_iload_n hx hb dL_law_462 rfl (lv_at hl 3 rfl) ?_
  refine lv_iconst (v := 1) hx hb dL_law_463 (by decide) ?_
  refine lv_iadd hx hb dL_law_464 ?_
  refine va_sld hx hb hX hbl hbA hS h1 dL_law_465 ?_
  rw [← hy1]
  refine lv_aload_n hx hb dL_law_466 rfl (lv_at hl 0 rfl) ?_
  refine lv_iload_n hx hb dL_law_467 rfl (lv_at hl 3 rfl) ?_
  refine lv_iconst (v := 2) hx hb dL_law_468 (by decide) ?_
  refine lv_iadd hx hb dL_law_469 ?_
  refine va_sld hx hb hX hbl hbA hS h2 dL_law_470 ?_
  rw [← hy2]
  refine cl_i (va_runV (As := [.int y1, .int y2]) (rest := []) ⟨hx, hb, hml, hown, hts⟩ (c_X6_best l D cI cS H.size h sa sg tg tr ln fo ft fl fn ro tp tq per rea rn wo tn td rw wn od sr y1 y2 hRS.hln) (cwV 2 hts gL_law_X6_best rfl rfl rfl (by decide +kernel) ⟨(Nat.le_of_ble_eq_true rfl), (Nat.le_of_ble_eq_true rfl)⟩) (wr_preV (va_P_l hP) (va_D_l hD) hK rfl (q0 := 0) rfl) rfl rfl hl.1 rfl (lv_room (Nat.le_of_ble_eq_true rfl)) dL_law_471 ⟨(Nat.le_of_ble_eq_true rfl), (Nat.le_of_ble_eq_true rfl)⟩) hP hD hS hA [h, sa, sg 0, tg 0, sg 1, tg 1, sg 2, tg 2, sg 3, tg 3, sg 4, tg 4, sg 5, tg 5, fo, ft, ro, tp, tq, wo, tn, td] rfl rfl (fun H locs hP hD hS => ?_)
  refine lv_aload_n hx hb dL_law_474 rfl (lv_at hl 2 rfl) ?_
  refine lv_aload_n hx hb dL_law_475 rfl (lv_at hl 0 rfl) ?_
  refine lv_iload_n hx hb dL_law_476 rfl (lv_at hl 3 rfl) ?_
  refine lv_iconst (v := 1) hx hb dL_law_477 (by decide) ?_
  refine lv_iadd hx hb dL_law_478 ?_
  refine va_sld hx hb hX hbl hbA hS h1 dL_law_479 ?_
  rw [← hy1]
  refine lv_aload_n hx hb dL_law_480 rfl (lv_at hl 0 rfl) ?_
  refine lv_iload_n hx hb dL_law_481 rfl (lv_at hl 3 rfl) ?_
  refine lv_iconst (v := 2) hx hb dL_law_482 (by decide) ?_
  refine lv_iadd hx hb dL_law_483 ?_
  refine va_sld hx hb hX hbl hbA hS h2 dL_law_484 ?_
  rw [← hy2]
  refine cr_i (va_runV (As := [.int y1, .int y2]) (rest := [.int ((fX6_best tr ln sr y1 y2).1)]) ⟨hx, hb, hml, hown, hts⟩ (c_X7_best l D cI H.size hm a0 a1 a3 a5 a6 a8 a12 sn tu fm we rm pm ra wm rv bs re ot cp ab be hh y1 y2 hRS.hsn) (cwV 2 hts gL_law_X7_best rfl rfl rfl (by decide +kernel) ⟨(Nat.le_of_ble_eq_true rfl), (Nat.le_of_ble_eq_true rfl)⟩) (wr_preV (va_P_r hP) (va_D_r hD) hKi rfl (q0 := 0) rfl) rfl rfl hl.1 rfl (lv_room (Nat.le_of_ble_eq_true rfl)) dL_law_485 ⟨(Nat.le_of_ble_eq_true rfl), (Nat.le_of_ble_eq_true rfl)⟩) hP hD hS hA [hm, a0, a1, a3, a5, a6, a8, a12] rfl rfl (fun H locs hP hD hS => ?_)
  have he := e_best hRS hsb hb30 re ot y1 y2
  refine lv_icmp_eq (tgt := 1234) hx hb dL_law_488 (by decide) (fun _ => ?_) (fun q => absurd he.1 q)
  exact kk H locs ⟨sa, sg, tg, ((fX6_best tr ln sr y1 y2).2.1), ((fX6_best tr ln sr y1 y2).2.2.1), fo, ft, fl, fn, ro, tp, tq, per, rea, rn, wo, tn, td, rw, wn, od, ((fX6_best tr ln sr y1 y2).2.2.2), a0, a1, a3, a5, a6, a8, a12, ((fX7_best sn tu bs re ot y1 y2).2.1), ((fX7_best sn tu bs re ot y1 y2).2.2.1), fm, we, rm, pm, ra, wm, rv, ((fX7_best sn tu bs re ot y1 y2).2.2.2.1), ((fX7_best sn tu bs re ot y1 y2).2.2.2.2.1), ((fX7_best sn tu bs re ot y1 y2).2.2.2.2.2), cp, ab, be, hh, ⟨hP, hD, hS⟩, he.2.1, hRF, hRR, hRW, he.2.2.1, he.2.2.2⟩
set_option maxHeartbeats 4000000 in
set_option maxRecDepth 100000 in
theorem lw_c9 {p : Program} {l : Launch} {e : Env} {s : State} {m : MethodId} {below : List Frame} {meth : Method} {c : Code} {b L : Nat} {xs : Nat → Int32} (C0 : lw_At p s m meth c b L xs) {D : va_G} {cI cS : ClassId} (hK : kI D [(cI, .int), (cS, .object RX5)] s) {i h hm : Nat} {H : Heap} {locs : List Loc} {ls : Array Slot} (S : LWS D cI cS (fun q : Nat => s.heap.size ≤ q) s.heap h hm H locs) (hl : lv_has ls 4 [(0, .ref b), (1, .ref h), (2, .ref hm), (3, .int (nI i))]) (h1 : vp_in (nI i + 1) L) (h2 : vp_in (nI i + 2) L) (kk : ∀ (H : Heap) (locs : List Loc), LWS D cI cS (fun q : Nat => s.heap.size ≤ q) s.heap h hm H locs → W p l e room_1 s m #[Value.ref b] below meth c H locs 600000 7302250 (lw_Z below #[Value.ref b] s) (F0 m 1234 ls [])) : W p l e room_1 s m #[Value.ref b] below meth c H locs 600000 7302250 (lw_Z below #[Value.ref b] s) (F0 m 493 ls []) := by
  obtain ⟨hx, hb, hr, hml, hown, hts, hX, hbl, hlocks, hgv⟩ := C0
  have hts := fun w h => hts w (wsL_law_in w h)
  have hown : s.vm.findClass RL = some m.cls := hown
  have hA : ∀ q : Nat, s.heap.size ≤ q → (fun q : Nat => s.heap.size ≤ q) q := fun _ h => h
  have hbA : ¬ (fun q : Nat => s.heap.size ≤ q) b := Nat.not_le.mpr hbl
  have hKi := hK.sub [0] (tys' := [(cI, .int)]) rfl
  obtain ⟨sa, sg, tg, tr, ln, fo, ft, fl, fn, ro, tp, tq, per, rea, rn, wo, tn, td, rw, wn, od, sr, a0, a1, a3, a5, a6, a8, a12, sn, tu, fm, we, rm, pm, ra, wm, rv, bs, re, ot, cp, ab, be, hh, ⟨hP, hD, hS⟩, hRS, hRF, hRR, hRW, hsb, hb30⟩ := S
  obtain ⟨y1, hy1⟩ : ∃ y : Int32, y = xs (nI i + 1).toNatClampNeg := ⟨_, rfl⟩
  obtain ⟨y2, hy2⟩ : ∃ y : Int32, y = xs (nI i + 2).toNatClampNeg := ⟨_, rfl⟩
  refine lv_aload_n hx hb dL_law_493 rfl (lv_at hl 1 rfl) ?_
  refine lv_aload_n hx hb dL_law_494 rfl (lv_at hl 0 rfl) ?_
  refine lv_iload_n hx hb dL_law_495 rfl (lv_at hl 3 rfl) ?_
  refine lv_iconst (v := 1) hx hb dL_law_496 (by decide) ?_
  refine lv_iadd hx hb dL_law_497 ?_
  refine va_sld hx hb hX hbl hbA hS h1 dL_law_498 ?_
  rw [← hy1]
  refine lv_aload_n hx hb dL_law_499 rfl (lv_at hl 0 rfl) ?_
  refine lv_iload_n hx hb dL_law_500 rfl (lv_at hl 3 rfl) ?_
  refine lv_iconst (v := 2) hx hb dL_law_501 (by decide) ?_
  refine lv_iadd hx hb dL_law_502 ?_
  refine va_sld hx hb hX hbl hbA hS h2 dL_law_503 ?_
  rw [← hy2]
  refine cs_i (va_runV (As := [.int y1, .int y2]) (rest := []) ⟨hx, hb, hml, hown, hts⟩ (c_X6_pair l D cI cS h sa sg tg tr ln fo ft fl fn ro tp tq per rea rn wo tn td rw wn od sr y1 y2 hRS.hln) (cwV 2 hts gL_law_X6_pair rfl rfl rfl (by decide +kernel) ⟨(Nat.le_of_ble_eq_true rfl), (Nat.le_of_ble_eq_true rfl)⟩) (ro_preV (va_P_l hP) hK rfl (q0 := 0) rfl) rfl rfl hl.1 rfl (lv_room (Nat.le_of_ble_eq_true rfl)) dL_law_504 ⟨(Nat.le_of_ble_eq_true rfl), (Nat.le_of_ble_eq_true rfl)⟩) ?_
  refine lv_aload_n hx hb dL_law_507 rfl (lv_at hl 2 rfl) ?_
  refine lv_aload_n hx hb dL_law_508 rfl (lv_at hl 0 rfl) ?_
  refine lv_iload_n hx hb dL_law_509 rfl (lv_at hl 3 rfl) ?_
  refine lv_iconst (v := 1) hx hb dL_law_510 (by decide) ?_
  refine lv_iadd hx hb dL_law_511 ?_
  refine va_sld hx hb hX hbl hbA hS h1 dL_law_512 ?_
  rw [← hy1]
  refine lv_aload_n hx hb dL_law_513 rfl (lv_at hl 0 rfl) ?_
  refine lv_iload_n hx hb dL_law_514 rfl (lv_at hl 3 rfl) ?_
  refine lv_iconst (v := 2) hx hb dL_law_515 (by decide) ?_
  refine lv_iadd hx hb dL_law_516 ?_
  refine va_sld hx hb hX hbl hbA hS h2 dL_law_517 ?_
  rw [← hy2]
  refine cr_i (va_runV (As := [.int y1, .int y2]) (rest := [.int (fX6_pair tr ln y1 y2)]) ⟨hx, hb, hml, hown, hts⟩ (c_X7_pair l D cI H.size hm a0 a1 a3 a5 a6 a8 a12 sn tu fm we rm pm ra wm rv bs re ot cp ab be hh y1 y2 hRS.hsn) (cwV 2 hts gL_law_X7_pair rfl rfl rfl (by decide +kernel) ⟨(Nat.le_of_ble_eq_true rfl), (Nat.le_of_ble_eq_true rfl)⟩) (wr_preV (va_P_r hP) (va_D_r hD) hKi rfl (q0 := 0) rfl) rfl rfl hl.1 rfl (lv_room (Nat.le_of_ble_eq_true rfl)) dL_law_518 ⟨(Nat.le_of_ble_eq_true rfl), (Nat.le_of_ble_eq_true rfl)⟩) hP hD hS hA [hm, a0, a1, a3, a5, a6, a8, a12] rfl rfl (fun H locs hP hD hS => ?_)
  have he := e_pair hRS re ot y1 y2
  refine lv_icmp_eq (tgt := 1234) hx hb dL_law_521 (by decide) (fun _ => ?_) (fun q => absurd he q)
  exact kk H locs ⟨sa, sg, tg, tr, ln, fo, ft, fl, fn, ro, tp, tq, per, rea, rn, wo, tn, td, rw, wn, od, sr, a0, a1, a3, a5, a6, a8, a12, sn, tu, fm, we, rm, pm, ra, wm, rv, bs, ((fX7_pair sn tu re ot y1 y2).2.1), ((fX7_pair sn tu re ot y1 y2).2.2), cp, ab, be, hh, ⟨hP, hD, hS⟩, hRS, hRF, hRR, hRW, hsb, hb30⟩
set_option maxHeartbeats 4000000 in
set_option maxRecDepth 100000 in
theorem lw_c10 {p : Program} {l : Launch} {e : Env} {s : State} {m : MethodId} {below : List Frame} {meth : Method} {c : Code} {b L : Nat} {xs : Nat → Int32} (C0 : lw_At p s m meth c b L xs) {D : va_G} {cI cS : ClassId} (hK : kI D [(cI, .int), (cS, .object RX5)] s) {i h hm : Nat} {H : Heap} {locs : List Loc} {ls : Array Slot} (S : LWS D cI cS (fun q : Nat => s.heap.size ≤ q) s.heap h hm H locs) (hl : lv_has ls 4 [(0, .ref b), (1, .ref h), (2, .ref hm), (3, .int (nI i))]) (h1 : vp_in (nI i + 1) L) (kk : ∀ (H : Heap) (locs : List Loc), LWS D cI cS (fun q : Nat => s.heap.size ≤ q) s.heap h hm H locs → W p l e room_1 s m #[Value.ref b] below meth c H locs 600000 7302250 (lw_Z below #[Value.ref b] s) (F0 m 1234 ls [])) : W p l e room_1 s m #[Value.ref b] below meth c H locs 600000 7302250 (lw_Z below #[Value.ref b] s) (F0 m 526 ls []) := by
  obtain ⟨hx, hb, hr, hml, hown, hts, hX, hbl, hlocks, hgv⟩ := C0
  have hts := fun w h => hts w (wsL_law_in w h)
  have hown : s.vm.findClass RL = some m.cls := hown
  have hA : ∀ q : Nat, s.heap.size ≤ q → (fun q : Nat => s.heap.size ≤ q) q := fun _ h => h
  have hbA : ¬ (fun q : Nat => s.heap.size ≤ q) b := Nat.not_le.mpr hbl
  have hKi := hK.sub [0] (tys' := [(cI, .int)]) rfl
  obtain ⟨sa, sg, tg, tr, ln, fo, ft, fl, fn, ro, tp, tq, per, rea, rn, wo, tn, td, rw, wn, od, sr, a0, a1, a3, a5, a6, a8, a12, sn, tu, fm, we, rm, pm, ra, wm, rv, bs, re, ot, cp, ab, be, hh, ⟨hP, hD, hS⟩, hRS, hRF, hRR, hRW, hsb, hb30⟩ := S
  obtain ⟨y1, hy1⟩ : ∃ y : Int32, y = xs (nI i + 1).toNatClampNeg := ⟨_, rfl⟩
  refine lv_aload_n hx hb dL_law_526 rfl (lv_at hl 1 rfl) ?_
  refine lv_aload_n hx hb dL_law_527 rfl (lv_at hl 0 rfl) ?_
  refine lv_iload_n hx hb dL_law_528 rfl (lv_at hl 3 rfl) ?_
  refine lv_iconst (v := 1) hx hb dL_law_529 (by decide) ?_
  refine lv_iadd hx hb dL_law_530 ?_
  refine va_sld hx hb hX hbl hbA hS h1 dL_law_531 ?_
  rw [← hy1]
  refine cl_i (va_runV (As := [.int y1]) (rest := []) ⟨hx, hb, hml, hown, hts⟩ (c_X6_filter l D cI cS H.size h sa sg tg tr ln fo ft fl fn ro tp tq per rea rn wo tn td rw wn od sr y1 ) (cwV 1 hts gL_law_X6_filter rfl rfl rfl (by decide +kernel) ⟨(Nat.le_of_ble_eq_true rfl), (Nat.le_of_ble_eq_true rfl)⟩) (wr_preV (va_P_l hP) (va_D_l hD) hK rfl (q0 := 0) rfl) rfl rfl hl.1 rfl (lv_room (Nat.le_of_ble_eq_true rfl)) dL_law_532 ⟨(Nat.le_of_ble_eq_true rfl), (Nat.le_of_ble_eq_true rfl)⟩) hP hD hS hA [h, sa, sg 0, tg 0, sg 1, tg 1, sg 2, tg 2, sg 3, tg 3, sg 4, tg 4, sg 5, tg 5, fo, ft, ro, tp, tq, wo, tn, td] rfl rfl (fun H locs hP hD hS => ?_)
  refine lv_aload_n hx hb dL_law_535 rfl (lv_at hl 2 rfl) ?_
  refine lv_aload_n hx hb dL_law_536 rfl (lv_at hl 0 rfl) ?_
  refine lv_iload_n hx hb dL_law_537 rfl (lv_at hl 3 rfl) ?_
  refine lv_iconst (v := 1) hx hb dL_law_538 (by decide) ?_
  refine lv_iadd hx hb dL_law_539 ?_
  refine va_sld hx hb hX hbl hbA hS h1 dL_law_540 ?_
  rw [← hy1]
  refine cr_i (va_runV (As := [.int y1]) (rest := [.int ((fX6_filter fl fn y1).1)]) ⟨hx, hb, hml, hown, hts⟩ (c_X7_filter l D cI H.size hm a0 a1 a3 a5 a6 a8 a12 sn tu fm we rm pm ra wm rv bs re ot cp ab be hh y1 ) (cwV 1 hts gL_law_X7_filter rfl rfl rfl (by decide +kernel) ⟨(Nat.le_of_ble_eq_true rfl), (Nat.le_of_ble_eq_true rfl)⟩) (wr_preV (va_P_r hP) (va_D_r hD) hKi rfl (q0 := 0) rfl) rfl rfl hl.1 rfl (lv_room (Nat.le_of_ble_eq_true rfl)) dL_law_541 ⟨(Nat.le_of_ble_eq_true rfl), (Nat.le_of_ble_eq_true rfl)⟩) hP hD hS hA [hm, a0, a1, a3, a5, a6, a8, a12] rfl rfl (fun H locs hP hD hS => ?_)
  have he := e_filter hRF y1
  refine lv_icmp_eq (tgt := 1234) hx hb dL_law_544 (by decide) (fun _ => ?_) (fun q => absurd he.1 q)
  exact kk H locs ⟨sa, sg, tg, tr, ln, fo, ft, ((fX6_filter fl fn y1).2.1), ((fX6_filter fl fn y1).2.2), ro, tp, tq, per, rea, rn, wo, tn, td, rw, wn, od, sr, a0, a1, a3, a5, a6, a8, a12, sn, tu, ((fX7_filter fm we y1).2.1), ((fX7_filter fm we y1).2.2), rm, pm, ra, wm, rv, bs, re, ot, cp, ab, be, hh, ⟨hP, hD, hS⟩, hRS, he.2, hRR, hRW, hsb, hb30⟩
set_option maxHeartbeats 4000000 in
set_option maxRecDepth 100000 in
theorem lw_c11 {p : Program} {l : Launch} {e : Env} {s : State} {m : MethodId} {below : List Frame} {meth : Method} {c : Code} {b L : Nat} {xs : Nat → Int32} (C0 : lw_At p s m meth c b L xs) {D : va_G} {cI cS : ClassId} (hK : kI D [(cI, .int), (cS, .object RX5)] s) {i h hm : Nat} {H : Heap} {locs : List Loc} {ls : Array Slot} (S : LWS D cI cS (fun q : Nat => s.heap.size ≤ q) s.heap h hm H locs) (hl : lv_has ls 4 [(0, .ref b), (1, .ref h), (2, .ref hm), (3, .int (nI i))]) (h1 : vp_in (nI i + 1) L) (h2 : vp_in (nI i + 2) L) (kk : ∀ (H : Heap) (locs : List Loc), LWS D cI cS (fun q : Nat => s.heap.size ≤ q) s.heap h hm H locs → W p l e room_1 s m #[Value.ref b] below meth c H locs 600000 7302250 (lw_Z below #[Value.ref b] s) (F0 m 1234 ls [])) : W p l e room_1 s m #[Value.ref b] below meth c H locs 600000 7302250 (lw_Z below #[Value.ref b] s) (F0 m 549 ls []) := by
  obtain ⟨hx, hb, hr, hml, hown, hts, hX, hbl, hlocks, hgv⟩ := C0
  have hts := fun w h => hts w (wsL_law_in w h)
  have hown : s.vm.findClass RL = some m.cls := hown
  have hA : ∀ q : Nat, s.heap.size ≤ q → (fun q : Nat => s.heap.size ≤ q) q := fun _ h => h
  have hbA : ¬ (fun q : Nat => s.heap.size ≤ q) b := Nat.not_le.mpr hbl
  have hKi := hK.sub [0] (tys' := [(cI, .int)]) rfl
  obtain ⟨sa, sg, tg, tr, ln, fo, ft, fl, fn, ro, tp, tq, per, rea, rn, wo, tn, td, rw, wn, od, sr, a0, a1, a3, a5, a6, a8, a12, sn, tu, fm, we, rm, pm, ra, wm, rv, bs, re, ot, cp, ab, be, hh, ⟨hP, hD, hS⟩, hRS, hRF, hRR, hRW, hsb, hb30⟩ := S
  obtain ⟨y1, hy1⟩ : ∃ y : Int32, y = xs (nI i + 1).toNatClampNeg := ⟨_, rfl⟩
  obtain ⟨y2, hy2⟩ : ∃ y : Int32, y = xs (nI i + 2).toNatClampNeg := ⟨_, rfl⟩
  refine lv_aload_n hx hb dL_law_549 rfl (lv_at hl 1 rfl) ?_
  refine lv_aload_n hx hb dL_law_550 rfl (lv_at hl 0 rfl) ?_
  refine lv_iload_n hx hb dL_law_551 rfl (lv_at hl 3 rfl) ?_
  refine lv_iconst (v := 1) hx hb dL_law_552 (by decide) ?_
  refine lv_iadd hx hb dL_law_553 ?_
  refine va_sld hx hb hX hbl hbA hS h1 dL_law_554 ?_
  rw [← hy1]
  refine lv_aload_n hx hb dL_law_555 rfl (lv_at hl 0 rfl) ?_
  refine lv_iload_n hx hb dL_law_556 rfl (lv_at hl 3 rfl) ?_
  refine lv_iconst (v := 2) hx hb dL_law_557 (by decide) ?_
  refine lv_iadd hx hb dL_law_558 ?_
  refine va_sld hx hb hX hbl hbA hS h2 dL_law_559 ?_
  rw [← hy2]
  refine cl_i (va_runV (As := [.int y1, .int y2]) (rest := []) ⟨hx, hb, hml, hown, hts⟩ (c_X6_weight l D cI cS H.size h sa sg tg tr ln fo ft fl fn ro tp tq per rea rn wo tn td rw wn od sr y1 y2 hRF.hfn) (cwV 2 hts gL_law_X6_weight rfl rfl rfl (by decide +kernel) ⟨(Nat.le_of_ble_eq_true rfl), (Nat.le_of_ble_eq_true rfl)⟩) (wr_preV (va_P_l hP) (va_D_l hD) hK rfl (q0 := 0) rfl) rfl rfl hl.1 rfl (lv_room (Nat.le_of_ble_eq_true rfl)) dL_law_560 ⟨(Nat.le_of_ble_eq_true rfl), (Nat.le_of_ble_eq_true rfl)⟩) hP hD hS hA [h, sa, sg 0, tg 0, sg 1, tg 1, sg 2, tg 2, sg 3, tg 3, sg 4, tg 4, sg 5, tg 5, fo, ft, ro, tp, tq, wo, tn, td] rfl rfl (fun H locs hP hD hS => ?_)
  refine lv_aload_n hx hb dL_law_563 rfl (lv_at hl 2 rfl) ?_
  refine lv_aload_n hx hb dL_law_564 rfl (lv_at hl 0 rfl) ?_
  refine lv_iload_n hx hb dL_law_565 rfl (lv_at hl 3 rfl) ?_
  refine lv_iconst (v := 1) hx hb dL_law_566 (by decide) ?_
  refine lv_iadd hx hb dL_law_567 ?_
  refine va_sld hx hb hX hbl hbA hS h1 dL_law_568 ?_
  rw [← hy1]
  refine lv_aload_n hx hb dL_law_569 rfl (lv_at hl 0 rfl) ?_
  refine lv_iload_n hx hb dL_law_570 rfl (lv_at hl 3 rfl) ?_
  refine lv_iconst (v := 2) hx hb dL_law_571 (by decide) ?_
  refine lv_iadd hx hb dL_law_572 ?_
  refine va_sld hx hb hX hbl hbA hS h2 dL_law_573 ?_
  rw [← hy2]
  refine cr_i (va_runV (As := [.int y1, .int y2]) (rest := [.int ((fX6_weight fl fn y1 y2).1)]) ⟨hx, hb, hml, hown, hts⟩ (c_X7_weight l D cI H.size hm a0 a1 a3 a5 a6 a8 a12 sn tu fm we rm pm ra wm rv bs re ot cp ab be hh y1 y2 hRF.hfm) (cwV 2 hts gL_law_X7_weight rfl rfl rfl (by decide +kernel) ⟨(Nat.le_of_ble_eq_true rfl), (Nat.le_of_ble_eq_true rfl)⟩) (wr_preV (va_P_r hP) (va_D_r hD) hKi rfl (q0 := 0) rfl) rfl rfl hl.1 rfl (lv_room (Nat.le_of_ble_eq_true rfl)) dL_law_574 ⟨(Nat.le_of_ble_eq_true rfl), (Nat.le_of_ble_eq_true rfl)⟩) hP hD hS hA [hm, a0, a1, a3, a5, a6, a8, a12] rfl rfl (fun H locs hP hD hS => ?_)
  have he := e_weight hRF y1 y2
  refine lv_icmp_eq (tgt := 1234) hx hb dL_law_577 (by decide) (fun _ => ?_) (fun q => absurd he.1 q)
  exact kk H locs ⟨sa, sg, tg, tr, ln, fo, ft, ((fX6_weight fl fn y1 y2).2), fn, ro, tp, tq, per, rea, rn, wo, tn, td, rw, wn, od, sr, a0, a1, a3, a5, a6, a8, a12, sn, tu, fm, ((fX7_weight fm we y1 y2).2), rm, pm, ra, wm, rv, bs, re, ot, cp, ab, be, hh, ⟨hP, hD, hS⟩, hRS, he.2, hRR, hRW, hsb, hb30⟩
set_option maxHeartbeats 4000000 in
set_option maxRecDepth 100000 in
theorem lw_c12 {p : Program} {l : Launch} {e : Env} {s : State} {m : MethodId} {below : List Frame} {meth : Method} {c : Code} {b L : Nat} {xs : Nat → Int32} (C0 : lw_At p s m meth c b L xs) {D : va_G} {cI cS : ClassId} (hK : kI D [(cI, .int), (cS, .object RX5)] s) {i h hm : Nat} {H : Heap} {locs : List Loc} {ls : Array Slot} (S : LWS D cI cS (fun q : Nat => s.heap.size ≤ q) s.heap h hm H locs) (hl : lv_has ls 4 [(0, .ref b), (1, .ref h), (2, .ref hm), (3, .int (nI i))]) (h1 : vp_in (nI i + 1) L) (kk : ∀ (H : Heap) (locs : List Loc), LWS D cI cS (fun q : Nat => s.heap.size ≤ q) s.heap h hm H locs → W p l e room_1 s m #[Value.ref b] below meth c H locs 600000 7302250 (lw_Z below #[Value.ref b] s) (F0 m 1234 ls [])) : W p l e room_1 s m #[Value.ref b] below meth c H locs 600000 7302250 (lw_Z below #[Value.ref b] s) (F0 m 582 ls []) := by
  obtain ⟨hx, hb, hr, hml, hown, hts, hX, hbl, hlocks, hgv⟩ := C0
  have hts := fun w h => hts w (wsL_law_in w h)
  have hown : s.vm.findClass RL = some m.cls := hown
  have hA : ∀ q : Nat, s.heap.size ≤ q → (fun q : Nat => s.heap.size ≤ q) q := fun _ h => h
  have hbA : ¬ (fun q : Nat => s.heap.size ≤ q) b := Nat.not_le.mpr hbl
  have hKi := hK.sub [0] (tys' := [(cI, .int)]) rfl
  obtain ⟨sa, sg, tg, tr, ln, fo, ft, fl, fn, ro, tp, tq, per, rea, rn, wo, tn, td, rw, wn, od, sr, a0, a1, a3, a5, a6, a8, a12, sn, tu, fm, we, rm, pm, ra, wm, rv, bs, re, ot, cp, ab, be, hh, ⟨hP, hD, hS⟩, hRS, hRF, hRR, hRW, hsb, hb30⟩ := S
  obtain ⟨y1, hy1⟩ : ∃ y : Int32, y = xs (nI i + 1).toNatClampNeg := ⟨_, rfl⟩
  refine lv_aload_n hx hb dL_law_582 rfl (lv_at hl 1 rfl) ?_
  refine lv_aload_n hx hb dL_law_583 rfl (lv_at hl 0 rfl) ?_
  refine lv_iload_n hx hb dL_law_584 rfl (lv_at hl 3 rfl) ?_
  refine lv_iconst (v := 1) hx hb dL_law_585 (by decide) ?_
  refine lv_iadd hx hb dL_law_586 ?_
  refine va_sld hx hb hX hbl hbA hS h1 dL_law_587 ?_
  rw [← hy1]
  refine cl_i (va_runV (As := [.int y1]) (rest := []) ⟨hx, hb, hml, hown, hts⟩ (c_X6_own l D cI cS H.size h sa sg tg tr ln fo ft fl fn ro tp tq per rea rn wo tn td rw wn od sr y1 hRS.hln) (cwV 1 hts gL_law_X6_own rfl rfl rfl (by decide +kernel) ⟨(Nat.le_of_ble_eq_true rfl), (Nat.le_of_ble_eq_true rfl)⟩) (wr_preV (va_P_l hP) (va_D_l hD) hK rfl (q0 := 0) rfl) rfl rfl hl.1 rfl (lv_room (Nat.le_of_ble_eq_true rfl)) dL_law_588 ⟨(Nat.le_of_ble_eq_true rfl), (Nat.le_of_ble_eq_true rfl)⟩) hP hD hS hA [h, sa, sg 0, tg 0, sg 1, tg 1, sg 2, tg 2, sg 3, tg 3, sg 4, tg 4, sg 5, tg 5, fo, ft, ro, tp, tq, wo, tn, td] rfl rfl (fun H locs hP hD hS => ?_)
  refine lv_aload_n hx hb dL_law_591 rfl (lv_at hl 2 rfl) ?_
  refine lv_aload_n hx hb dL_law_592 rfl (lv_at hl 0 rfl) ?_
  refine lv_iload_n hx hb dL_law_593 rfl (lv_at hl 3 rfl) ?_
  refine lv_iconst (v := 1) hx hb dL_law_594 (by decide) ?_
  refine lv_iadd hx hb dL_law_595 ?_
  refine va_sld hx hb hX hbl hbA hS h1 dL_law_596 ?_
  rw [← hy1]
  refine cr_i (va_runV (As := [.int y1]) (rest := [.int ((fX6_own tr ln fl fn y1).1)]) ⟨hx, hb, hml, hown, hts⟩ (c_X7_own l D cI H.size hm a0 a1 a3 a5 a6 a8 a12 sn tu fm we rm pm ra wm rv bs re ot cp ab be hh y1 hRS.hsn) (cwV 1 hts gL_law_X7_own rfl rfl rfl (by decide +kernel) ⟨(Nat.le_of_ble_eq_true rfl), (Nat.le_of_ble_eq_true rfl)⟩) (wr_preV (va_P_r hP) (va_D_r hD) hKi rfl (q0 := 0) rfl) rfl rfl hl.1 rfl (lv_room (Nat.le_of_ble_eq_true rfl)) dL_law_597 ⟨(Nat.le_of_ble_eq_true rfl), (Nat.le_of_ble_eq_true rfl)⟩) hP hD hS hA [hm, a0, a1, a3, a5, a6, a8, a12] rfl rfl (fun H locs hP hD hS => ?_)
  have he := e_own6 hRS hRF y1
  refine lv_icmp_eq (tgt := 1234) hx hb dL_law_600 (by decide) (fun _ => ?_) (fun q => absurd he.1 q)
  exact kk H locs ⟨sa, sg, tg, tr, ln, fo, ft, ((fX6_own tr ln fl fn y1).2.1), ((fX6_own tr ln fl fn y1).2.2), ro, tp, tq, per, rea, rn, wo, tn, td, rw, wn, od, sr, a0, a1, a3, a5, a6, a8, a12, sn, tu, ((fX7_own sn tu fm we y1).2.1), ((fX7_own sn tu fm we y1).2.2), rm, pm, ra, wm, rv, bs, re, ot, cp, ab, be, hh, ⟨hP, hD, hS⟩, hRS, he.2, hRR, hRW, hsb, hb30⟩
set_option maxHeartbeats 4000000 in
set_option maxRecDepth 100000 in
theorem lw_c13 {p : Program} {l : Launch} {e : Env} {s : State} {m : MethodId} {below : List Frame} {meth : Method} {c : Code} {b L : Nat} {xs : Nat → Int32} (C0 : lw_At p s m meth c b L xs) {D : va_G} {cI cS : ClassId} (hK : kI D [(cI, .int), (cS, .object RX5)] s) {i h hm : Nat} {H : Heap} {locs : List Loc} {ls : Array Slot} (S : LWS D cI cS (fun q : Nat => s.heap.size ≤ q) s.heap h hm H locs) (hl : lv_has ls 4 [(0, .ref b), (1, .ref h), (2, .ref hm), (3, .int (nI i))]) (h1 : vp_in (nI i + 1) L) (h2 : vp_in (nI i + 2) L) (h3 : vp_in (nI i + 3) L) (kk : ∀ (H : Heap) (locs : List Loc), LWS D cI cS (fun q : Nat => s.heap.size ≤ q) s.heap h hm H locs → W p l e room_1 s m #[Value.ref b] below meth c H locs 600000 7302250 (lw_Z below #[Value.ref b] s) (F0 m 1234 ls [])) : W p l e room_1 s m #[Value.ref b] below meth c H locs 600000 7302250 (lw_Z below #[Value.ref b] s) (F0 m 605 ls []) := by
  obtain ⟨hx, hb, hr, hml, hown, hts, hX, hbl, hlocks, hgv⟩ := C0
  have hts := fun w h => hts w (wsL_law_in w h)
  have hown : s.vm.findClass RL = some m.cls := hown
  have hA : ∀ q : Nat, s.heap.size ≤ q → (fun q : Nat => s.heap.size ≤ q) q := fun _ h => h
  have hbA : ¬ (fun q : Nat => s.heap.size ≤ q) b := Nat.not_le.mpr hbl
  have hKi := hK.sub [0] (tys' := [(cI, .int)]) rfl
  obtain ⟨sa, sg, tg, tr, ln, fo, ft, fl, fn, ro, tp, tq, per, rea, rn, wo, tn, td, rw, wn, od, sr, a0, a1, a3, a5, a6, a8, a12, sn, tu, fm, we, rm, pm, ra, wm, rv, bs, re, ot, cp, ab, be, hh, ⟨hP, hD, hS⟩, hRS, hRF, hRR, hRW, hsb, hb30⟩ := S
  obtain ⟨y1, hy1⟩ : ∃ y : Int32, y = xs (nI i + 1).toNatClampNeg := ⟨_, rfl⟩
  obtain ⟨y2, hy2⟩ : ∃ y : Int32, y = xs (nI i + 2).toNatClampNeg := ⟨_, rfl⟩
  obtain ⟨y3, hy3⟩ : ∃ y : Int32, y = xs (nI i + 3).toNatClampNeg := ⟨_, rfl⟩
  refine lv_aload_n hx hb dL_law_605 rfl (lv_at hl 1 rfl) ?_
  refine lv_aload_n hx hb dL_law_606 rfl (lv_at hl 0 rfl) ?_
  refine lv_iload_n hx hb dL_law_607 rfl (lv_at hl 3 rfl) ?_
  refine lv_iconst (v := 1) hx hb dL_law_608 (by decide) ?_
  refine lv_iadd hx hb dL_law_609 ?_
  refine va_sld hx hb hX hbl hbA hS h1 dL_law_610 ?_
  rw [← hy1]
  refine lv_aload_n hx hb dL_law_611 rfl (lv_at hl 0 rfl) ?_
  refine lv_iload_n hx hb dL_law_612 rfl (lv_at hl 3 rfl) ?_
  refine lv_iconst (v := 2) hx hb dL_law_613 (by decide) ?_
  refine lv_iadd hx hb dL_law_614 ?_
  refine va_sld hx hb hX hbl hbA hS h2 dL_law_615 ?_
  rw [← hy2]
  refine lv_aload_n hx hb dL_law_616 rfl (lv_at hl 0 rfl) ?_
  refine lv_iload_n hx hb dL_law_617 rfl (lv_at hl 3 rfl) ?_
  refine lv_iconst (v := 3) hx hb dL_law_618 (by decide) ?_
  refine lv_iadd hx hb dL_law_619 ?_
  refine va_sld hx hb hX hbl hbA hS h3 dL_law_620 ?_
  rw [← hy3]
  refine cs_i (va_runV (As := [.int y1, .int y2, .int y3]) (rest := []) ⟨hx, hb, hml, hown, hts⟩ (c_X6_answer l D cI cS h sa sg tg tr ln fo ft fl fn ro tp tq per rea rn wo tn td rw wn od sr y1 y2 y3 hRS.hln hRF.hfn) (cwV 3 hts gL_law_X6_answer rfl rfl rfl (by decide +kernel) ⟨(Nat.le_of_ble_eq_true rfl), (Nat.le_of_ble_eq_true rfl)⟩) (ro_preV (va_P_l hP) hK rfl (q0 := 0) rfl) rfl rfl hl.1 rfl (lv_room (Nat.le_of_ble_eq_true rfl)) dL_law_621 ⟨(Nat.le_of_ble_eq_true rfl), (Nat.le_of_ble_eq_true rfl)⟩) ?_
  refine lv_aload_n hx hb dL_law_624 rfl (lv_at hl 2 rfl) ?_
  refine lv_aload_n hx hb dL_law_625 rfl (lv_at hl 0 rfl) ?_
  refine lv_iload_n hx hb dL_law_626 rfl (lv_at hl 3 rfl) ?_
  refine lv_iconst (v := 1) hx hb dL_law_627 (by decide) ?_
  refine lv_iadd hx hb dL_law_628 ?_
  refine va_sld hx hb hX hbl hbA hS h1 dL_law_629 ?_
  rw [← hy1]
  refine lv_aload_n hx hb dL_law_630 rfl (lv_at hl 0 rfl) ?_
  refine lv_iload_n hx hb dL_law_631 rfl (lv_at hl 3 rfl) ?_
  refine lv_iconst (v := 2) hx hb dL_law_632 (by decide) ?_
  refine lv_iadd hx hb dL_law_633 ?_
  refine va_sld hx hb hX hbl hbA hS h2 dL_law_634 ?_
  rw [← hy2]
  refine lv_aload_n hx hb dL_law_635 rfl (lv_at hl 0 rfl) ?_
  refine lv_iload_n hx hb dL_law_636 rfl (lv_at hl 3 rfl) ?_
  refine lv_iconst (v := 3) hx hb dL_law_637 (by decide) ?_
  refine lv_iadd hx hb dL_law_638 ?_
  refine va_sld hx hb hX hbl hbA hS h3 dL_law_639 ?_
  rw [← hy3]
  refine cr_i (va_runV (As := [.int y1, .int y2, .int y3]) (rest := [.int (fX6_answer tr ln fl fn y1 y2 y3)]) ⟨hx, hb, hml, hown, hts⟩ (c_X7_answer l D cI H.size hm a0 a1 a3 a5 a6 a8 a12 sn tu fm we rm pm ra wm rv bs re ot cp ab be hh y1 y2 y3 hRS.hsn hRF.hfm) (cwV 3 hts gL_law_X7_answer rfl rfl rfl (by decide +kernel) ⟨(Nat.le_of_ble_eq_true rfl), (Nat.le_of_ble_eq_true rfl)⟩) (wr_preV (va_P_r hP) (va_D_r hD) hKi rfl (q0 := 0) rfl) rfl rfl hl.1 rfl (lv_room (Nat.le_of_ble_eq_true rfl)) dL_law_640 ⟨(Nat.le_of_ble_eq_true rfl), (Nat.le_of_ble_eq_true rfl)⟩) hP hD hS hA [hm, a0, a1, a3, a5, a6, a8, a12] rfl rfl (fun H locs hP hD hS => ?_)
  have he := e_answer hRS hRF re ot y1 y2 y3
  refine lv_icmp_eq (tgt := 1234) hx hb dL_law_643 (by decide) (fun _ => ?_) (fun q => absurd he q)
  exact kk H locs ⟨sa, sg, tg, tr, ln, fo, ft, fl, fn, ro, tp, tq, per, rea, rn, wo, tn, td, rw, wn, od, sr, a0, a1, a3, a5, a6, a8, a12, sn, tu, fm, we, rm, pm, ra, wm, rv, bs, ((fX7_answer sn tu fm we re ot y1 y2 y3).2.1), ((fX7_answer sn tu fm we re ot y1 y2 y3).2.2), cp, ab, be, hh, ⟨hP, hD, hS⟩, hRS, hRF, hRR, hRW, hsb, hb30⟩
set_option maxHeartbeats 4000000 in
set_option maxRecDepth 100000 in
theorem lw_c14 {p : Program} {l : Launch} {e : Env} {s : State} {m : MethodId} {below : List Frame} {meth : Method} {c : Code} {b L : Nat} {xs : Nat → Int32} (C0 : lw_At p s m meth c b L xs) {D : va_G} {cI cS : ClassId} (hK : kI D [(cI, .int), (cS, .object RX5)] s) {i h hm : Nat} {H : Heap} {locs : List Loc} {ls : Array Slot} (S : LWS D cI cS (fun q : Nat => s.heap.size ≤ q) s.heap h hm H locs) (hl : lv_has ls 4 [(0, .ref b), (1, .ref h), (2, .ref hm), (3, .int (nI i))]) (h1 : vp_in (nI i + 1) L) (kk : ∀ (H : Heap) (locs : List Loc), LWS D cI cS (fun q : Nat => s.heap.size ≤ q) s.heap h hm H locs → W p l e room_1 s m #[Value.ref b] below meth c H locs 600000 7302250 (lw_Z below #[Value.ref b] s) (F0 m 1234 ls [])) : W p l e room_1 s m #[Value.ref b] below meth c H locs 600000 7302250 (lw_Z below #[Value.ref b] s) (F0 m 648 ls []) := by
  obtain ⟨hx, hb, hr, hml, hown, hts, hX, hbl, hlocks, hgv⟩ := C0
  have hts := fun w h => hts w (wsL_law_in w h)
  have hown : s.vm.findClass RL = some m.cls := hown
  have hA : ∀ q : Nat, s.heap.size ≤ q → (fun q : Nat => s.heap.size ≤ q) q := fun _ h => h
  have hbA : ¬ (fun q : Nat => s.heap.size ≤ q) b := Nat.not_le.mpr hbl
  have hKi := hK.sub [0] (tys' := [(cI, .int)]) rfl
  obtain ⟨sa, sg, tg, tr, ln, fo, ft, fl, fn, ro, tp, tq, per, rea, rn, wo, tn, td, rw, wn, od, sr, a0, a1, a3, a5, a6, a8, a12, sn, tu, fm, we, rm, pm, ra, wm, rv, bs, re, ot, cp, ab, be, hh, ⟨hP, hD, hS⟩, hRS, hRF, hRR, hRW, hsb, hb30⟩ := S
  obtain ⟨y1, hy1⟩ : ∃ y : Int32, y = xs (nI i + 1).toNatClampNeg := ⟨_, rfl⟩
  refine lv_aload_n hx hb dL_law_648 rfl (lv_at hl 1 rfl) ?_
  refine lv_aload_n hx hb dL_law_649 rfl (lv_at hl 0 rfl) ?_
  refine lv_iload_n hx hb dL_law_650 rfl (lv_at hl 3 rfl) ?_
  refine lv_iconst (v := 1) hx hb dL_law_651 (by decide) ?_
  refine lv_iadd hx hb dL_law_652 ?_
  refine va_sld hx hb hX hbl hbA hS h1 dL_law_653 ?_
  rw [← hy1]
  refine cs_i (va_runV (As := [.int y1]) (rest := []) ⟨hx, hb, hml, hown, hts⟩ (c_X6_greatest l D cI cS h sa sg tg tr ln fo ft fl fn ro tp tq per rea rn wo tn td rw wn od sr y1 hRS.hln hRF.hfn) (cwV 1 hts gL_law_X6_greatest rfl rfl rfl (by decide +kernel) ⟨(Nat.le_of_ble_eq_true rfl), (Nat.le_of_ble_eq_true rfl)⟩) (ro_preV (va_P_l hP) hK rfl (q0 := 0) rfl) rfl rfl hl.1 rfl (lv_room (Nat.le_of_ble_eq_true rfl)) dL_law_654 ⟨(Nat.le_of_ble_eq_true rfl), (Nat.le_of_ble_eq_true rfl)⟩) ?_
  refine lv_aload_n hx hb dL_law_657 rfl (lv_at hl 2 rfl) ?_
  refine lv_aload_n hx hb dL_law_658 rfl (lv_at hl 0 rfl) ?_
  refine lv_iload_n hx hb dL_law_659 rfl (lv_at hl 3 rfl) ?_
  refine lv_iconst (v := 1) hx hb dL_law_660 (by decide) ?_
  refine lv_iadd hx hb dL_law_661 ?_
  refine va_sld hx hb hX hbl hbA hS h1 dL_law_662 ?_
  rw [← hy1]
  refine cr_i (va_runV (As := [.int y1]) (rest := [.int (fX6_greatest tr ln fl fn y1)]) ⟨hx, hb, hml, hown, hts⟩ (c_X7_greatest l D cI H.size hm a0 a1 a3 a5 a6 a8 a12 sn tu fm we rm pm ra wm rv bs re ot cp ab be hh y1 hRS.hsn hRF.hfm) (cwV 1 hts gL_law_X7_greatest rfl rfl rfl (by decide +kernel) ⟨(Nat.le_of_ble_eq_true rfl), (Nat.le_of_ble_eq_true rfl)⟩) (wr_preV (va_P_r hP) (va_D_r hD) hKi rfl (q0 := 0) rfl) rfl rfl hl.1 rfl (lv_room (Nat.le_of_ble_eq_true rfl)) dL_law_663 ⟨(Nat.le_of_ble_eq_true rfl), (Nat.le_of_ble_eq_true rfl)⟩) hP hD hS hA [hm, a0, a1, a3, a5, a6, a8, a12] rfl rfl (fun H locs hP hD hS => ?_)
  have he := e_greatest hRS hRF re ot y1
  refine lv_icmp_eq (tgt := 1234) hx hb dL_law_666 (by decide) (fun _ => ?_) (fun q => absurd he q)
  exact kk H locs ⟨sa, sg, tg, tr, ln, fo, ft, fl, fn, ro, tp, tq, per, rea, rn, wo, tn, td, rw, wn, od, sr, a0, a1, a3, a5, a6, a8, a12, sn, tu, fm, we, rm, pm, ra, wm, rv, bs, ((fX7_greatest sn tu fm we re ot y1).2.1), ((fX7_greatest sn tu fm we re ot y1).2.2), cp, ab, be, hh, ⟨hP, hD, hS⟩, hRS, hRF, hRR, hRW, hsb, hb30⟩
set_option maxHeartbeats 4000000 in
set_option maxRecDepth 100000 in
theorem lw_c15 {p : Program} {l : Launch} {e : Env} {s : State} {m : MethodId} {below : List Frame} {meth : Method} {c : Code} {b L : Nat} {xs : Nat → Int32} (C0 : lw_At p s m meth c b L xs) {D : va_G} {cI cS : ClassId} (hK : kI D [(cI, .int), (cS, .object RX5)] s) {i h hm : Nat} {H : Heap} {locs : List Loc} {ls : Array Slot} (S : LWS D cI cS (fun q : Nat => s.heap.size ≤ q) s.heap h hm H locs) (hl : lv_has ls 4 [(0, .ref b), (1, .ref h), (2, .ref hm), (3, .int (nI i))]) (h1 : vp_in (nI i + 1) L) (kk : ∀ (H : Heap) (locs : List Loc), LWS D cI cS (fun q : Nat => s.heap.size ≤ q) s.heap h hm H locs → W p l e room_1 s m #[Value.ref b] below meth c H locs 600000 7302250 (lw_Z below #[Value.ref b] s) (F0 m 1234 ls [])) : W p l e room_1 s m #[Value.ref b] below meth c H locs 600000 7302250 (lw_Z below #[Value.ref b] s) (F0 m 671 ls []) := by
  obtain ⟨hx, hb, hr, hml, hown, hts, hX, hbl, hlocks, hgv⟩ := C0
  have hts := fun w h => hts w (wsL_law_in w h)
  have hown : s.vm.findClass RL = some m.cls := hown
  have hA : ∀ q : Nat, s.heap.size ≤ q → (fun q : Nat => s.heap.size ≤ q) q := fun _ h => h
  have hbA : ¬ (fun q : Nat => s.heap.size ≤ q) b := Nat.not_le.mpr hbl
  have hKi := hK.sub [0] (tys' := [(cI, .int)]) rfl
  obtain ⟨sa, sg, tg, tr, ln, fo, ft, fl, fn, ro, tp, tq, per, rea, rn, wo, tn, td, rw, wn, od, sr, a0, a1, a3, a5, a6, a8, a12, sn, tu, fm, we, rm, pm, ra, wm, rv, bs, re, ot, cp, ab, be, hh, ⟨hP, hD, hS⟩, hRS, hRF, hRR, hRW, hsb, hb30⟩ := S
  obtain ⟨y1, hy1⟩ : ∃ y : Int32, y = xs (nI i + 1).toNatClampNeg := ⟨_, rfl⟩
  refine lv_aload_n hx hb dL_law_671 rfl (lv_at hl 1 rfl) ?_
  refine lv_aload_n hx hb dL_law_672 rfl (lv_at hl 0 rfl) ?_
  refine lv_iload_n hx hb dL_law_673 rfl (lv_at hl 3 rfl) ?_
  refine lv_iconst (v := 1) hx hb dL_law_674 (by decide) ?_
  refine lv_iadd hx hb dL_law_675 ?_
  refine va_sld hx hb hX hbl hbA hS h1 dL_law_676 ?_
  rw [← hy1]
  refine cs_i (va_runV (As := [.int y1]) (rest := []) ⟨hx, hb, hml, hown, hts⟩ (c_X6_clear l D cI cS h sa sg tg tr ln fo ft fl fn ro tp tq per rea rn wo tn td rw wn od sr y1 hRS.hln hRF.hfn) (cwV 1 hts gL_law_X6_clear rfl rfl rfl (by decide +kernel) ⟨(Nat.le_of_ble_eq_true rfl), (Nat.le_of_ble_eq_true rfl)⟩) (ro_preV (va_P_l hP) hK rfl (q0 := 0) rfl) rfl rfl hl.1 rfl (lv_room (Nat.le_of_ble_eq_true rfl)) dL_law_677 ⟨(Nat.le_of_ble_eq_true rfl), (Nat.le_of_ble_eq_true rfl)⟩) ?_
  refine lv_aload_n hx hb dL_law_680 rfl (lv_at hl 2 rfl) ?_
  refine lv_aload_n hx hb dL_law_681 rfl (lv_at hl 0 rfl) ?_
  refine lv_iload_n hx hb dL_law_682 rfl (lv_at hl 3 rfl) ?_
  refine lv_iconst (v := 1) hx hb dL_law_683 (by decide) ?_
  refine lv_iadd hx hb dL_law_684 ?_
  refine va_sld hx hb hX hbl hbA hS h1 dL_law_685 ?_
  rw [← hy1]
  refine cr_i (va_runV (As := [.int y1]) (rest := [.int (fX6_clear tr ln fl fn y1)]) ⟨hx, hb, hml, hown, hts⟩ (c_X7_clear l D cI H.size hm a0 a1 a3 a5 a6 a8 a12 sn tu fm we rm pm ra wm rv bs re ot cp ab be hh y1 hRS.hsn hRF.hfm) (cwV 1 hts gL_law_X7_clear rfl rfl rfl (by decide +kernel) ⟨(Nat.le_of_ble_eq_true rfl), (Nat.le_of_ble_eq_true rfl)⟩) (wr_preV (va_P_r hP) (va_D_r hD) hKi rfl (q0 := 0) rfl) rfl rfl hl.1 rfl (lv_room (Nat.le_of_ble_eq_true rfl)) dL_law_686 ⟨(Nat.le_of_ble_eq_true rfl), (Nat.le_of_ble_eq_true rfl)⟩) hP hD hS hA [hm, a0, a1, a3, a5, a6, a8, a12] rfl rfl (fun H locs hP hD hS => ?_)
  have he := e_clear hRS hRF re ot y1
  refine lv_icmp_eq (tgt := 1234) hx hb dL_law_689 (by decide) (fun _ => ?_) (fun q => absurd he q)
  exact kk H locs ⟨sa, sg, tg, tr, ln, fo, ft, fl, fn, ro, tp, tq, per, rea, rn, wo, tn, td, rw, wn, od, sr, a0, a1, a3, a5, a6, a8, a12, sn, tu, fm, we, rm, pm, ra, wm, rv, bs, ((fX7_clear sn tu fm we re ot y1).2.1), ((fX7_clear sn tu fm we re ot y1).2.2), cp, ab, be, hh, ⟨hP, hD, hS⟩, hRS, hRF, hRR, hRW, hsb, hb30⟩
