set_option maxHeartbeats 4000000 in
set_option maxRecDepth 100000 in
theorem lw_c24 {p : Program} {l : Launch} {e : Env} {s : State} {m : MethodId} {below : List Frame} {meth : Method} {c : Code} {b L : Nat} {xs : Nat → Int32} (C0 : lw_At p s m meth c b L xs) {D : va_G} {cI cS : ClassId} (hK : kI D [(cI, .int), (cS, .object RX5)] s) {i h hm : Nat} {H : Heap} {locs : List Loc} {ls : Array Slot} (S : LWS D cI cS (fun q : Nat => s.heap.size ≤ q) s.heap h hm H locs) (hl : lv_has ls 4 [(0, .ref b), (1, .ref h), (2, .ref hm), (3, .int (nI i))]) (h1 : vp_in (nI i + 1) L) (kk : ∀ (H : Heap) (locs : List Loc), LWS D cI cS (fun q : Nat => s.heap.size ≤ q) s.heap h hm H locs → W p l e room_1 s m #[Value.ref b] below meth c H locs 600000 7302250 (lw_Z below #[Value.ref b] s) (F0 m 1234 ls [])) : W p l e room_1 s m #[Value.ref b] below meth c H locs 600000 7302250 (lw_Z below #[Value.ref b] s) (F0 m 948 ls []) := by
  obtain ⟨hx, hb, hr, hml, hown, hts, hX, hbl, hlocks, hgv⟩ := C0
  have hts := fun w h => hts w (wsL_law_in w h)
  have hown : s.vm.findClass RL = some m.cls := hown
  have hA : ∀ q : Nat, s.heap.size ≤ q → (fun q : Nat => s.heap.size ≤ q) q := fun _ h => h
  have hbA : ¬ (fun q : Nat => s.heap.size ≤ q) b := Nat.not_le.mpr hbl
  have hKi := hK.sub [0] (tys' := [(cI, .int)]) rfl
  obtain ⟨sa, sg, tg, tr, ln, fo, ft, fl, fn, ro, tp, tq, per, rea, rn, wo, tn, td, rw, wn, od, sr, a0, a1, a3, a5, a6, a8, a12, sn, tu, fm, we, rm, pm, ra, wm, rv, bs, re, ot, cp, ab, be, hh, ⟨hP, hD, hS⟩, hRS, hRF, hRR, hRW, hsb, hb30⟩ := S
  obtain ⟨y1, hy1⟩ : ∃ y : Int32, y = xs (nI i + 1).toNatClampNeg := ⟨_, rfl⟩
  refine lv_aload_n hx hb dL_law_948 rfl (lv_at hl 1 rfl) ?_
  refine lv_aload_n hx hb dL_law_949 rfl (lv_at hl 0 rfl) ?_
  refine lv_iload_n hx hb dL_law_950 rfl (lv_at hl 3 rfl) ?_
  refine lv_iconst (v := 1) hx hb dL_law_951 (by decide) ?_
  refine lv_iadd hx hb dL_law_952 ?_
  refine va_sld hx hb hX hbl hbA hS h1 dL_law_953 ?_
  rw [← hy1]
  refine cl_i (va_runV (As := [.int y1]) (rest := []) ⟨hx, hb, hml, hown, hts⟩ (c_X6_put l D cI cS H.size h sa sg tg tr ln fo ft fl fn ro tp tq per rea rn wo tn td rw wn od sr y1 hRW.hwn) (cwV 1 hts gL_law_X6_put rfl rfl rfl (by decide +kernel) ⟨(Nat.le_of_ble_eq_true rfl), (Nat.le_of_ble_eq_true rfl)⟩) (wr_preV (va_P_l hP) (va_D_l hD) hK rfl (q0 := 0) rfl) rfl rfl hl.1 rfl (lv_room (Nat.le_of_ble_eq_true rfl)) dL_law_954 ⟨(Nat.le_of_ble_eq_true rfl), (Nat.le_of_ble_eq_true rfl)⟩) hP hD hS hA [h, sa, sg 0, tg 0, sg 1, tg 1, sg 2, tg 2, sg 3, tg 3, sg 4, tg 4, sg 5, tg 5, fo, ft, ro, tp, tq, wo, tn, td] rfl rfl (fun H locs hP hD hS => ?_)
  refine lv_aload_n hx hb dL_law_957 rfl (lv_at hl 2 rfl) ?_
  refine lv_aload_n hx hb dL_law_958 rfl (lv_at hl 0 rfl) ?_
  refine lv_iload_n hx hb dL_law_959 rfl (lv_at hl 3 rfl) ?_
  refine lv_iconst (v := 1) hx hb dL_law_960 (by decide) ?_
  refine lv_iadd hx hb dL_law_961 ?_
  refine va_sld hx hb hX hbl hbA hS h1 dL_law_962 ?_
  rw [← hy1]
  refine cr_i (va_runV (As := [.int y1]) (rest := [.int ((fX6_put rw wn y1).1)]) ⟨hx, hb, hml, hown, hts⟩ (c_X7_put l D cI H.size hm a0 a1 a3 a5 a6 a8 a12 sn tu fm we rm pm ra wm rv bs re ot cp ab be hh y1 hRW.hwm) (cwV 1 hts gL_law_X7_put rfl rfl rfl (by decide +kernel) ⟨(Nat.le_of_ble_eq_true rfl), (Nat.le_of_ble_eq_true rfl)⟩) (wr_preV (va_P_r hP) (va_D_r hD) hKi rfl (q0 := 0) rfl) rfl rfl hl.1 rfl (lv_room (Nat.le_of_ble_eq_true rfl)) dL_law_963 ⟨(Nat.le_of_ble_eq_true rfl), (Nat.le_of_ble_eq_true rfl)⟩) hP hD hS hA [hm, a0, a1, a3, a5, a6, a8, a12] rfl rfl (fun H locs hP hD hS => ?_)
  have he := e_put hRW y1
  refine lv_icmp_eq (tgt := 1234) hx hb dL_law_966 (by decide) (fun _ => ?_) (fun q => absurd he.1 q)
  exact kk H locs ⟨sa, sg, tg, tr, ln, fo, ft, fl, fn, ro, tp, tq, per, rea, rn, wo, tn, td, ((fX6_put rw wn y1).2.2), ((fX6_put rw wn y1).2.1), od, sr, a0, a1, a3, a5, a6, a8, a12, sn, tu, fm, we, rm, pm, ra, ((fX7_put wm rv y1).2.1), ((fX7_put wm rv y1).2.2), bs, re, ot, cp, ab, be, hh, ⟨hP, hD, hS⟩, hRS, hRF, hRR, he.2, hsb, hb30⟩
set_option maxHeartbeats 4000000 in
set_option maxRecDepth 100000 in
theorem lw_c25 {p : Program} {l : Launch} {e : Env} {s : State} {m : MethodId} {below : List Frame} {meth : Method} {c : Code} {b L : Nat} {xs : Nat → Int32} (C0 : lw_At p s m meth c b L xs) {D : va_G} {cI cS : ClassId} (hK : kI D [(cI, .int), (cS, .object RX5)] s) {i h hm : Nat} {H : Heap} {locs : List Loc} {ls : Array Slot} (S : LWS D cI cS (fun q : Nat => s.heap.size ≤ q) s.heap h hm H locs) (hl : lv_has ls 4 [(0, .ref b), (1, .ref h), (2, .ref hm), (3, .int (nI i))])  (kk : ∀ (H : Heap) (locs : List Loc), LWS D cI cS (fun q : Nat => s.heap.size ≤ q) s.heap h hm H locs → W p l e room_1 s m #[Value.ref b] below meth c H locs 600000 7302250 (lw_Z below #[Value.ref b] s) (F0 m 1234 ls [])) : W p l e room_1 s m #[Value.ref b] below meth c H locs 600000 7302250 (lw_Z below #[Value.ref b] s) (F0 m 971 ls []) := by
  obtain ⟨hx, hb, hr, hml, hown, hts, hX, hbl, hlocks, hgv⟩ := C0
  have hts := fun w h => hts w (wsL_law_in w h)
  have hown : s.vm.findClass RL = some m.cls := hown
  have hA : ∀ q : Nat, s.heap.size ≤ q → (fun q : Nat => s.heap.size ≤ q) q := fun _ h => h
  have hbA : ¬ (fun q : Nat => s.heap.size ≤ q) b := Nat.not_le.mpr hbl
  have hKi := hK.sub [0] (tys' := [(cI, .int)]) rfl
  obtain ⟨sa, sg, tg, tr, ln, fo, ft, fl, fn, ro, tp, tq, per, rea, rn, wo, tn, td, rw, wn, od, sr, a0, a1, a3, a5, a6, a8, a12, sn, tu, fm, we, rm, pm, ra, wm, rv, bs, re, ot, cp, ab, be, hh, ⟨hP, hD, hS⟩, hRS, hRF, hRR, hRW, hsb, hb30⟩ := S
  refine lv_aload_n hx hb dL_law_971 rfl (lv_at hl 1 rfl) ?_
  refine cl_i (va_runV (As := []) (rest := []) ⟨hx, hb, hml, hown, hts⟩ (c_X6_empty l D cI cS H.size h sa sg tg tr ln fo ft fl fn ro tp tq per rea rn wo tn td rw wn od sr  ) (cwV 0 hts gL_law_X6_empty rfl rfl rfl (by decide +kernel) ⟨(Nat.le_of_ble_eq_true rfl), (Nat.le_of_ble_eq_true rfl)⟩) (wr_preV (va_P_l hP) (va_D_l hD) hK rfl (q0 := 0) rfl) rfl rfl hl.1 rfl (lv_room (Nat.le_of_ble_eq_true rfl)) dL_law_972 ⟨(Nat.le_of_ble_eq_true rfl), (Nat.le_of_ble_eq_true rfl)⟩) hP hD hS hA [h, sa, sg 0, tg 0, sg 1, tg 1, sg 2, tg 2, sg 3, tg 3, sg 4, tg 4, sg 5, tg 5, fo, ft, ro, tp, tq, wo, tn, td] rfl rfl (fun H locs hP hD hS => ?_)
  refine lv_aload_n hx hb dL_law_975 rfl (lv_at hl 2 rfl) ?_
  refine cr_i (va_runV (As := []) (rest := [.int ((fX6_empty wn).1)]) ⟨hx, hb, hml, hown, hts⟩ (c_X7_empty l D cI H.size hm a0 a1 a3 a5 a6 a8 a12 sn tu fm we rm pm ra wm rv bs re ot cp ab be hh  ) (cwV 0 hts gL_law_X7_empty rfl rfl rfl (by decide +kernel) ⟨(Nat.le_of_ble_eq_true rfl), (Nat.le_of_ble_eq_true rfl)⟩) (wr_preV (va_P_r hP) (va_D_r hD) hKi rfl (q0 := 0) rfl) rfl rfl hl.1 rfl (lv_room (Nat.le_of_ble_eq_true rfl)) dL_law_976 ⟨(Nat.le_of_ble_eq_true rfl), (Nat.le_of_ble_eq_true rfl)⟩) hP hD hS hA [hm, a0, a1, a3, a5, a6, a8, a12] rfl rfl (fun H locs hP hD hS => ?_)
  have he := e_empty hRW 
  refine lv_icmp_eq (tgt := 1234) hx hb dL_law_979 (by decide) (fun _ => ?_) (fun q => absurd he.1 q)
  exact kk H locs ⟨sa, sg, tg, tr, ln, fo, ft, fl, fn, ro, tp, tq, per, rea, rn, wo, tn, td, rw, ((fX6_empty wn).2), od, sr, a0, a1, a3, a5, a6, a8, a12, sn, tu, fm, we, rm, pm, ra, ((fX7_empty wm).2), rv, bs, re, ot, cp, ab, be, hh, ⟨hP, hD, hS⟩, hRS, hRF, hRR, he.2, hsb, hb30⟩
set_option maxHeartbeats 4000000 in
set_option maxRecDepth 100000 in
theorem lw_c26 {p : Program} {l : Launch} {e : Env} {s : State} {m : MethodId} {below : List Frame} {meth : Method} {c : Code} {b L : Nat} {xs : Nat → Int32} (C0 : lw_At p s m meth c b L xs) {D : va_G} {cI cS : ClassId} (hK : kI D [(cI, .int), (cS, .object RX5)] s) {i h hm : Nat} {H : Heap} {locs : List Loc} {ls : Array Slot} (S : LWS D cI cS (fun q : Nat => s.heap.size ≤ q) s.heap h hm H locs) (hl : lv_has ls 4 [(0, .ref b), (1, .ref h), (2, .ref hm), (3, .int (nI i))]) (h1 : vp_in (nI i + 1) L) (h2 : vp_in (nI i + 2) L) (h3 : vp_in (nI i + 3) L) (h4 : vp_in (nI i + 4) L) (h5 : vp_in (nI i + 5) L) (kk : ∀ (H : Heap) (locs : List Loc), LWS D cI cS (fun q : Nat => s.heap.size ≤ q) s.heap h hm H locs → W p l e room_1 s m #[Value.ref b] below meth c H locs 600000 7302250 (lw_Z below #[Value.ref b] s) (F0 m 1234 ls [])) : W p l e room_1 s m #[Value.ref b] below meth c H locs 600000 7302250 (lw_Z below #[Value.ref b] s) (F0 m 984 ls []) := by
  obtain ⟨hx, hb, hr, hml, hown, hts, hX, hbl, hlocks, hgv⟩ := C0
  have hts := fun w h => hts w (wsL_law_in w h)
  have hown : s.vm.findClass RL = some m.cls := hown
  have hA : ∀ q : Nat, s.heap.size ≤ q → (fun q : Nat => s.heap.size ≤ q) q := fun _ h => h
  have hbA : ¬ (fun q : Nat => s.heap.size ≤ q) b := Nat.not_le.mpr hbl
  have hKi := hK.sub [0] (tys' := [(cI, .int)]) rfl
  obtain ⟨sa, sg, tg, tr, ln, fo, ft, fl, fn, ro, tp, tq, per, rea, rn, wo, tn, td, rw, wn, od, sr, a0, a1, a3, a5, a6, a8, a12, sn, tu, fm, we, rm, pm, ra, wm, rv, bs, re, ot, cp, ab, be, hh, ⟨hP, hD, hS⟩, hRS, hRF, hRR, hRW, hsb, hb30⟩ := S
  obtain ⟨y1, hy1⟩ : ∃ y : Int32, y = xs (nI i + 1).toNatClampNeg := ⟨_, rfl⟩
  obtain ⟨y2, hy2⟩ : ∃ y : Int32, y = xs (nI i + 2).toNatClampNeg := ⟨_, rfl⟩
  obtain ⟨y3, hy3⟩ : ∃ y : Int32, y = xs (nI i + 3).toNatClampNeg := ⟨_, rfl⟩
  obtain ⟨y4, hy4⟩ : ∃ y : Int32, y = xs (nI i + 4).toNatClampNeg := ⟨_, rfl⟩
  obtain ⟨y5, hy5⟩ : ∃ y : Int32, y = xs (nI i + 5).toNatClampNeg := ⟨_, rfl⟩
  refine lv_aload_n hx hb dL_law_984 rfl (lv_at hl 1 rfl) ?_
  refine lv_aload_n hx hb dL_law_985 rfl (lv_at hl 0 rfl) ?_
  refine lv_iload_n hx hb dL_law_986 rfl (lv_at hl 3 rfl) ?_
  refine lv_iconst (v := 1) hx hb dL_law_987 (by decide) ?_
  refine lv_iadd hx hb dL_law_988 ?_
  refine va_sld hx hb hX hbl hbA hS h1 dL_law_989 ?_
  rw [← hy1]
  refine lv_aload_n hx hb dL_law_990 rfl (lv_at hl 0 rfl) ?_
  refine lv_iload_n hx hb dL_law_991 rfl (lv_at hl 3 rfl) ?_
  refine lv_iconst (v := 2) hx hb dL_law_992 (by decide) ?_
  refine lv_iadd hx hb dL_law_993 ?_
  refine va_sld hx hb hX hbl hbA hS h2 dL_law_994 ?_
  rw [← hy2]
  refine lv_aload_n hx hb dL_law_995 rfl (lv_at hl 0 rfl) ?_
  refine lv_iload_n hx hb dL_law_996 rfl (lv_at hl 3 rfl) ?_
  refine lv_iconst (v := 3) hx hb dL_law_997 (by decide) ?_
  refine lv_iadd hx hb dL_law_998 ?_
  refine va_sld hx hb hX hbl hbA hS h3 dL_law_999 ?_
  rw [← hy3]
  refine lv_aload_n hx hb dL_law_1000 rfl (lv_at hl 0 rfl) ?_
  refine lv_iload_n hx hb dL_law_1001 rfl (lv_at hl 3 rfl) ?_
  refine lv_iconst (v := 4) hx hb dL_law_1002 (by decide) ?_
  refine lv_iadd hx hb dL_law_1003 ?_
  refine va_sld hx hb hX hbl hbA hS h4 dL_law_1004 ?_
  rw [← hy4]
  refine lv_aload_n hx hb dL_law_1005 rfl (lv_at hl 0 rfl) ?_
  refine lv_iload_n hx hb dL_law_1006 rfl (lv_at hl 3 rfl) ?_
  refine lv_iconst (v := 5) hx hb dL_law_1007 (by decide) ?_
  refine lv_iadd hx hb dL_law_1008 ?_
  refine va_sld hx hb hX hbl hbA hS h5 dL_law_1009 ?_
  rw [← hy5]
  refine cl_i (va_runV (As := [.int y1, .int y2, .int y3, .int y4, .int y5]) (rest := []) ⟨hx, hb, hml, hown, hts⟩ (c_X6_found l D cI cS H.size h sa sg tg tr ln fo ft fl fn ro tp tq per rea rn wo tn td rw wn od sr y1 y2 y3 y4 y5 hRW.hwn) (cwV 5 hts gL_law_X6_found rfl rfl rfl (by decide +kernel) ⟨(Nat.le_of_ble_eq_true rfl), (Nat.le_of_ble_eq_true rfl)⟩) (wr_preV (va_P_l hP) (va_D_l hD) hK rfl (q0 := 0) rfl) rfl rfl hl.1 rfl (lv_room (Nat.le_of_ble_eq_true rfl)) dL_law_1010 ⟨(Nat.le_of_ble_eq_true rfl), (Nat.le_of_ble_eq_true rfl)⟩) hP hD hS hA [h, sa, sg 0, tg 0, sg 1, tg 1, sg 2, tg 2, sg 3, tg 3, sg 4, tg 4, sg 5, tg 5, fo, ft, ro, tp, tq, wo, tn, td] rfl rfl (fun H locs hP hD hS => ?_)
  refine lv_aload_n hx hb dL_law_1013 rfl (lv_at hl 2 rfl) ?_
  refine lv_aload_n hx hb dL_law_1014 rfl (lv_at hl 0 rfl) ?_
  refine lv_iload_n hx hb dL_law_1015 rfl (lv_at hl 3 rfl) ?_
  refine lv_iconst (v := 1) hx hb dL_law_1016 (by decide) ?_
  refine lv_iadd hx hb dL_law_1017 ?_
  refine va_sld hx hb hX hbl hbA hS h1 dL_law_1018 ?_
  rw [← hy1]
  refine lv_aload_n hx hb dL_law_1019 rfl (lv_at hl 0 rfl) ?_
  refine lv_iload_n hx hb dL_law_1020 rfl (lv_at hl 3 rfl) ?_
  refine lv_iconst (v := 2) hx hb dL_law_1021 (by decide) ?_
  refine lv_iadd hx hb dL_law_1022 ?_
  refine va_sld hx hb hX hbl hbA hS h2 dL_law_1023 ?_
  rw [← hy2]
  refine lv_aload_n hx hb dL_law_1024 rfl (lv_at hl 0 rfl) ?_
  refine lv_iload_n hx hb dL_law_1025 rfl (lv_at hl 3 rfl) ?_
  refine lv_iconst (v := 3) hx hb dL_law_1026 (by decide) ?_
  refine lv_iadd hx hb dL_law_1027 ?_
  refine va_sld hx hb hX hbl hbA hS h3 dL_law_1028 ?_
  rw [← hy3]
  refine lv_aload_n hx hb dL_law_1029 rfl (lv_at hl 0 rfl) ?_
  refine lv_iload_n hx hb dL_law_1030 rfl (lv_at hl 3 rfl) ?_
  refine lv_iconst (v := 4) hx hb dL_law_1031 (by decide) ?_
  refine lv_iadd hx hb dL_law_1032 ?_
  refine va_sld hx hb hX hbl hbA hS h4 dL_law_1033 ?_
  rw [← hy4]
  refine lv_aload_n hx hb dL_law_1034 rfl (lv_at hl 0 rfl) ?_
  refine lv_iload_n hx hb dL_law_1035 rfl (lv_at hl 3 rfl) ?_
  refine lv_iconst (v := 5) hx hb dL_law_1036 (by decide) ?_
  refine lv_iadd hx hb dL_law_1037 ?_
  refine va_sld hx hb hX hbl hbA hS h5 dL_law_1038 ?_
  rw [← hy5]
  refine cs_i (va_runV (As := [.int y1, .int y2, .int y3, .int y4, .int y5]) (rest := [.int ((fX6_found rw wn od y1 y2 y3 y4 y5).1)]) ⟨hx, hb, hml, hown, hts⟩ (c_X7_found l D cI hm a0 a1 a3 a5 a6 a8 a12 sn tu fm we rm pm ra wm rv bs re ot cp ab be hh y1 y2 y3 y4 y5 hRW.hwm) (cwV 5 hts gL_law_X7_found rfl rfl rfl (by decide +kernel) ⟨(Nat.le_of_ble_eq_true rfl), (Nat.le_of_ble_eq_true rfl)⟩) (ro_preV (va_P_r hP) hKi rfl (q0 := 0) rfl) rfl rfl hl.1 rfl (lv_room (Nat.le_of_ble_eq_true rfl)) dL_law_1039 ⟨(Nat.le_of_ble_eq_true rfl), (Nat.le_of_ble_eq_true rfl)⟩) ?_
  have he := e_found hRW od y1 y2 y3 y4 y5
  refine lv_icmp_eq (tgt := 1234) hx hb dL_law_1042 (by decide) (fun _ => ?_) (fun q => absurd he q)
  exact kk H locs ⟨sa, sg, tg, tr, ln, fo, ft, fl, fn, ro, tp, tq, per, rea, rn, wo, tn, td, rw, wn, ((fX6_found rw wn od y1 y2 y3 y4 y5).2), sr, a0, a1, a3, a5, a6, a8, a12, sn, tu, fm, we, rm, pm, ra, wm, rv, bs, re, ot, cp, ab, be, hh, ⟨hP, hD, hS⟩, hRS, hRF, hRR, hRW, hsb, hb30⟩
set_option maxHeartbeats 4000000 in
set_option maxRecDepth 100000 in
theorem lw_c27 {p : Program} {l : Launch} {e : Env} {s : State} {m : MethodId} {below : List Frame} {meth : Method} {c : Code} {b L : Nat} {xs : Nat → Int32} (C0 : lw_At p s m meth c b L xs) {D : va_G} {cI cS : ClassId} (hK : kI D [(cI, .int), (cS, .object RX5)] s) {i h hm : Nat} {H : Heap} {locs : List Loc} {ls : Array Slot} (S : LWS D cI cS (fun q : Nat => s.heap.size ≤ q) s.heap h hm H locs) (hl : lv_has ls 4 [(0, .ref b), (1, .ref h), (2, .ref hm), (3, .int (nI i))]) (h1 : vp_in (nI i + 1) L) (h2 : vp_in (nI i + 2) L) (h3 : vp_in (nI i + 3) L) (h4 : vp_in (nI i + 4) L) (kk : ∀ (H : Heap) (locs : List Loc), LWS D cI cS (fun q : Nat => s.heap.size ≤ q) s.heap h hm H locs → W p l e room_1 s m #[Value.ref b] below meth c H locs 600000 7302250 (lw_Z below #[Value.ref b] s) (F0 m 1234 ls [])) : W p l e room_1 s m #[Value.ref b] below meth c H locs 600000 7302250 (lw_Z below #[Value.ref b] s) (F0 m 1047 ls []) := by
  obtain ⟨hx, hb, hr, hml, hown, hts, hX, hbl, hlocks, hgv⟩ := C0
  have hts := fun w h => hts w (wsL_law_in w h)
  have hown : s.vm.findClass RL = some m.cls := hown
  have hA : ∀ q : Nat, s.heap.size ≤ q → (fun q : Nat => s.heap.size ≤ q) q := fun _ h => h
  have hbA : ¬ (fun q : Nat => s.heap.size ≤ q) b := Nat.not_le.mpr hbl
  have hKi := hK.sub [0] (tys' := [(cI, .int)]) rfl
  obtain ⟨sa, sg, tg, tr, ln, fo, ft, fl, fn, ro, tp, tq, per, rea, rn, wo, tn, td, rw, wn, od, sr, a0, a1, a3, a5, a6, a8, a12, sn, tu, fm, we, rm, pm, ra, wm, rv, bs, re, ot, cp, ab, be, hh, ⟨hP, hD, hS⟩, hRS, hRF, hRR, hRW, hsb, hb30⟩ := S
  obtain ⟨y1, hy1⟩ : ∃ y : Int32, y = xs (nI i + 1).toNatClampNeg := ⟨_, rfl⟩
  obtain ⟨y2, hy2⟩ : ∃ y : Int32, y = xs (nI i + 2).toNatClampNeg := ⟨_, rfl⟩
  obtain ⟨y3, hy3⟩ : ∃ y : Int32, y = xs (nI i + 3).toNatClampNeg := ⟨_, rfl⟩
  obtain ⟨y4, hy4⟩ : ∃ y : Int32, y = xs (nI i + 4).toNatClampNeg := ⟨_, rfl⟩
  refine lv_aload_n hx hb dL_law_1047 rfl (lv_at hl 1 rfl) ?_
  refine lv_aload_n hx hb dL_law_1048 rfl (lv_at hl 0 rfl) ?_
  refine lv_iload_n hx hb dL_law_1049 rfl (lv_at hl 3 rfl) ?_
  refine lv_iconst (v := 1) hx hb dL_law_1050 (by decide) ?_
  refine lv_iadd hx hb dL_law_1051 ?_
  refine va_sld hx hb hX hbl hbA hS h1 dL_law_1052 ?_
  rw [← hy1]
  refine lv_aload_n hx hb dL_law_1053 rfl (lv_at hl 0 rfl) ?_
  refine lv_iload_n hx hb dL_law_1054 rfl (lv_at hl 3 rfl) ?_
  refine lv_iconst (v := 2) hx hb dL_law_1055 (by decide) ?_
  refine lv_iadd hx hb dL_law_1056 ?_
  refine va_sld hx hb hX hbl hbA hS h2 dL_law_1057 ?_
  rw [← hy2]
  refine lv_aload_n hx hb dL_law_1058 rfl (lv_at hl 0 rfl) ?_
  refine lv_iload_n hx hb dL_law_1059 rfl (lv_at hl 3 rfl) ?_
  refine lv_iconst (v := 3) hx hb dL_law_1060 (by decide) ?_
  refine lv_iadd hx hb dL_law_1061 ?_
  refine va_sld hx hb hX hbl hbA hS h3 dL_law_1062 ?_
  rw [← hy3]
  refine lv_aload_n hx hb dL_law_1063 rfl (lv_at hl 0 rfl) ?_
  refine lv_iload_n hx hb dL_law_1064 rfl (lv_at hl 3 rfl) ?_
  refine lv_iconst (v := 4) hx hb dL_law_1065 (by decide) ?_
  refine lv_iadd hx hb dL_law_1066 ?_
  refine va_sld hx hb hX hbl hbA hS h4 dL_law_1067 ?_
  rw [← hy4]
  refine cl_i (va_runV (As := [.int y1, .int y2, .int y3, .int y4]) (rest := []) ⟨hx, hb, hml, hown, hts⟩ (c_X6_count l D cI cS H.size h sa sg tg tr ln fo ft fl fn ro tp tq per rea rn wo tn td rw wn od sr y1 y2 y3 y4 hRW.hwn) (cwV 4 hts gL_law_X6_count rfl rfl rfl (by decide +kernel) ⟨(Nat.le_of_ble_eq_true rfl), (Nat.le_of_ble_eq_true rfl)⟩) (wr_preV (va_P_l hP) (va_D_l hD) hK rfl (q0 := 0) rfl) rfl rfl hl.1 rfl (lv_room (Nat.le_of_ble_eq_true rfl)) dL_law_1068 ⟨(Nat.le_of_ble_eq_true rfl), (Nat.le_of_ble_eq_true rfl)⟩) hP hD hS hA [h, sa, sg 0, tg 0, sg 1, tg 1, sg 2, tg 2, sg 3, tg 3, sg 4, tg 4, sg 5, tg 5, fo, ft, ro, tp, tq, wo, tn, td] rfl rfl (fun H locs hP hD hS => ?_)
  refine lv_aload_n hx hb dL_law_1071 rfl (lv_at hl 2 rfl) ?_
  refine lv_aload_n hx hb dL_law_1072 rfl (lv_at hl 0 rfl) ?_
  refine lv_iload_n hx hb dL_law_1073 rfl (lv_at hl 3 rfl) ?_
  refine lv_iconst (v := 1) hx hb dL_law_1074 (by decide) ?_
  refine lv_iadd hx hb dL_law_1075 ?_
  refine va_sld hx hb hX hbl hbA hS h1 dL_law_1076 ?_
  rw [← hy1]
  refine lv_aload_n hx hb dL_law_1077 rfl (lv_at hl 0 rfl) ?_
  refine lv_iload_n hx hb dL_law_1078 rfl (lv_at hl 3 rfl) ?_
  refine lv_iconst (v := 2) hx hb dL_law_1079 (by decide) ?_
  refine lv_iadd hx hb dL_law_1080 ?_
  refine va_sld hx hb hX hbl hbA hS h2 dL_law_1081 ?_
  rw [← hy2]
  refine lv_aload_n hx hb dL_law_1082 rfl (lv_at hl 0 rfl) ?_
  refine lv_iload_n hx hb dL_law_1083 rfl (lv_at hl 3 rfl) ?_
  refine lv_iconst (v := 3) hx hb dL_law_1084 (by decide) ?_
  refine lv_iadd hx hb dL_law_1085 ?_
  refine va_sld hx hb hX hbl hbA hS h3 dL_law_1086 ?_
  rw [← hy3]
  refine lv_aload_n hx hb dL_law_1087 rfl (lv_at hl 0 rfl) ?_
  refine lv_iload_n hx hb dL_law_1088 rfl (lv_at hl 3 rfl) ?_
  refine lv_iconst (v := 4) hx hb dL_law_1089 (by decide) ?_
  refine lv_iadd hx hb dL_law_1090 ?_
  refine va_sld hx hb hX hbl hbA hS h4 dL_law_1091 ?_
  rw [← hy4]
  refine cs_i (va_runV (As := [.int y1, .int y2, .int y3, .int y4]) (rest := [.int ((fX6_count rw wn od y1 y2 y3 y4).1)]) ⟨hx, hb, hml, hown, hts⟩ (c_X7_count l D cI hm a0 a1 a3 a5 a6 a8 a12 sn tu fm we rm pm ra wm rv bs re ot cp ab be hh y1 y2 y3 y4 hRW.hwm) (cwV 4 hts gL_law_X7_count rfl rfl rfl (by decide +kernel) ⟨(Nat.le_of_ble_eq_true rfl), (Nat.le_of_ble_eq_true rfl)⟩) (ro_preV (va_P_r hP) hKi rfl (q0 := 0) rfl) rfl rfl hl.1 rfl (lv_room (Nat.le_of_ble_eq_true rfl)) dL_law_1092 ⟨(Nat.le_of_ble_eq_true rfl), (Nat.le_of_ble_eq_true rfl)⟩) ?_
  have he := e_count hRW od y1 y2 y3 y4
  refine lv_icmp_eq (tgt := 1234) hx hb dL_law_1095 (by decide) (fun _ => ?_) (fun q => absurd he q)
  exact kk H locs ⟨sa, sg, tg, tr, ln, fo, ft, fl, fn, ro, tp, tq, per, rea, rn, wo, tn, td, rw, wn, ((fX6_count rw wn od y1 y2 y3 y4).2), sr, a0, a1, a3, a5, a6, a8, a12, sn, tu, fm, we, rm, pm, ra, wm, rv, bs, re, ot, cp, ab, be, hh, ⟨hP, hD, hS⟩, hRS, hRF, hRR, hRW, hsb, hb30⟩
set_option maxHeartbeats 4000000 in
set_option maxRecDepth 100000 in
theorem lw_c28 {p : Program} {l : Launch} {e : Env} {s : State} {m : MethodId} {below : List Frame} {meth : Method} {c : Code} {b L : Nat} {xs : Nat → Int32} (C0 : lw_At p s m meth c b L xs) {D : va_G} {cI cS : ClassId} (hK : kI D [(cI, .int), (cS, .object RX5)] s) {i h hm : Nat} {H : Heap} {locs : List Loc} {ls : Array Slot} (S : LWS D cI cS (fun q : Nat => s.heap.size ≤ q) s.heap h hm H locs) (hl : lv_has ls 4 [(0, .ref b), (1, .ref h), (2, .ref hm), (3, .int (nI i))]) (h1 : vp_in (nI i + 1) L) (h2 : vp_in (nI i + 2) L) (h3 : vp_in (nI i + 3) L) (h4 : vp_in (nI i + 4) L) (kk : ∀ (H : Heap) (locs : List Loc), LWS D cI cS (fun q : Nat => s.heap.size ≤ q) s.heap h hm H locs → W p l e room_1 s m #[Value.ref b] below meth c H locs 600000 7302250 (lw_Z below #[Value.ref b] s) (F0 m 1234 ls [])) : W p l e room_1 s m #[Value.ref b] below meth c H locs 600000 7302250 (lw_Z below #[Value.ref b] s) (F0 m 1100 ls []) := by
  obtain ⟨hx, hb, hr, hml, hown, hts, hX, hbl, hlocks, hgv⟩ := C0
  have hts := fun w h => hts w (wsL_law_in w h)
  have hown : s.vm.findClass RL = some m.cls := hown
  have hA : ∀ q : Nat, s.heap.size ≤ q → (fun q : Nat => s.heap.size ≤ q) q := fun _ h => h
  have hbA : ¬ (fun q : Nat => s.heap.size ≤ q) b := Nat.not_le.mpr hbl
  have hKi := hK.sub [0] (tys' := [(cI, .int)]) rfl
  obtain ⟨sa, sg, tg, tr, ln, fo, ft, fl, fn, ro, tp, tq, per, rea, rn, wo, tn, td, rw, wn, od, sr, a0, a1, a3, a5, a6, a8, a12, sn, tu, fm, we, rm, pm, ra, wm, rv, bs, re, ot, cp, ab, be, hh, ⟨hP, hD, hS⟩, hRS, hRF, hRR, hRW, hsb, hb30⟩ := S
  obtain ⟨y1, hy1⟩ : ∃ y : Int32, y = xs (nI i + 1).toNatClampNeg := ⟨_, rfl⟩
  obtain ⟨y2, hy2⟩ : ∃ y : Int32, y = xs (nI i + 2).toNatClampNeg := ⟨_, rfl⟩
  obtain ⟨y3, hy3⟩ : ∃ y : Int32, y = xs (nI i + 3).toNatClampNeg := ⟨_, rfl⟩
  obtain ⟨y4, hy4⟩ : ∃ y : Int32, y = xs (nI i + 4).toNatClampNeg := ⟨_, rfl⟩
  refine lv_aload_n hx hb dL_law_1100 rfl (lv_at hl 1 rfl) ?_
  refine lv_aload_n hx hb dL_law_1101 rfl (lv_at hl 0 rfl) ?_
  refine lv_iload_n hx hb dL_law_1102 rfl (lv_at hl 3 rfl) ?_
  refine lv_iconst (v := 1) hx hb dL_law_1103 (by decide) ?_
  refine lv_iadd hx hb dL_law_1104 ?_
  refine va_sld hx hb hX hbl hbA hS h1 dL_law_1105 ?_
  rw [← hy1]
  refine lv_aload_n hx hb dL_law_1106 rfl (lv_at hl 0 rfl) ?_
  refine lv_iload_n hx hb dL_law_1107 rfl (lv_at hl 3 rfl) ?_
  refine lv_iconst (v := 2) hx hb dL_law_1108 (by decide) ?_
  refine lv_iadd hx hb dL_law_1109 ?_
  refine va_sld hx hb hX hbl hbA hS h2 dL_law_1110 ?_
  rw [← hy2]
  refine lv_aload_n hx hb dL_law_1111 rfl (lv_at hl 0 rfl) ?_
  refine lv_iload_n hx hb dL_law_1112 rfl (lv_at hl 3 rfl) ?_
  refine lv_iconst (v := 3) hx hb dL_law_1113 (by decide) ?_
  refine lv_iadd hx hb dL_law_1114 ?_
  refine va_sld hx hb hX hbl hbA hS h3 dL_law_1115 ?_
  rw [← hy3]
  refine lv_aload_n hx hb dL_law_1116 rfl (lv_at hl 0 rfl) ?_
  refine lv_iload_n hx hb dL_law_1117 rfl (lv_at hl 3 rfl) ?_
  refine lv_iconst (v := 4) hx hb dL_law_1118 (by decide) ?_
  refine lv_iadd hx hb dL_law_1119 ?_
  refine va_sld hx hb hX hbl hbA hS h4 dL_law_1120 ?_
  rw [← hy4]
  refine cs_l (va_runV (As := [.int y1, .int y2, .int y3, .int y4]) (rest := []) ⟨hx, hb, hml, hown, hts⟩ (c_X6_share l D cI cS h sa sg tg tr ln fo ft fl fn ro tp tq per rea rn wo tn td rw wn od sr y1 y2 y3 y4 ) (cwV 4 hts gL_law_X6_share rfl rfl rfl (by decide +kernel) ⟨(Nat.le_of_ble_eq_true rfl), (Nat.le_of_ble_eq_true rfl)⟩) (ro_preV (va_P_l hP) hK rfl (q0 := 0) rfl) rfl rfl hl.1 rfl (lv_room (Nat.le_of_ble_eq_true rfl)) dL_law_1121 ⟨(Nat.le_of_ble_eq_true rfl), (Nat.le_of_ble_eq_true rfl)⟩) ?_
  refine lv_aload_n hx hb dL_law_1124 rfl (lv_at hl 2 rfl) ?_
  refine lv_aload_n hx hb dL_law_1125 rfl (lv_at hl 0 rfl) ?_
  refine lv_iload_n hx hb dL_law_1126 rfl (lv_at hl 3 rfl) ?_
  refine lv_iconst (v := 1) hx hb dL_law_1127 (by decide) ?_
  refine lv_iadd hx hb dL_law_1128 ?_
  refine va_sld hx hb hX hbl hbA hS h1 dL_law_1129 ?_
  rw [← hy1]
  refine lv_aload_n hx hb dL_law_1130 rfl (lv_at hl 0 rfl) ?_
  refine lv_iload_n hx hb dL_law_1131 rfl (lv_at hl 3 rfl) ?_
  refine lv_iconst (v := 2) hx hb dL_law_1132 (by decide) ?_
  refine lv_iadd hx hb dL_law_1133 ?_
  refine va_sld hx hb hX hbl hbA hS h2 dL_law_1134 ?_
  rw [← hy2]
  refine lv_aload_n hx hb dL_law_1135 rfl (lv_at hl 0 rfl) ?_
  refine lv_iload_n hx hb dL_law_1136 rfl (lv_at hl 3 rfl) ?_
  refine lv_iconst (v := 3) hx hb dL_law_1137 (by decide) ?_
  refine lv_iadd hx hb dL_law_1138 ?_
  refine va_sld hx hb hX hbl hbA hS h3 dL_law_1139 ?_
  rw [← hy3]
  refine lv_aload_n hx hb dL_law_1140 rfl (lv_at hl 0 rfl) ?_
  refine lv_iload_n hx hb dL_law_1141 rfl (lv_at hl 3 rfl) ?_
  refine lv_iconst (v := 4) hx hb dL_law_1142 (by decide) ?_
  refine lv_iadd hx hb dL_law_1143 ?_
  refine va_sld hx hb hX hbl hbA hS h4 dL_law_1144 ?_
  rw [← hy4]
  refine cr_l (va_runV (As := [.int y1, .int y2, .int y3, .int y4]) (rest := [.long (fX6_share y1 y2 y3 y4)]) ⟨hx, hb, hml, hown, hts⟩ (c_X7_share l D cI H.size hm a0 a1 a3 a5 a6 a8 a12 sn tu fm we rm pm ra wm rv bs re ot cp ab be hh y1 y2 y3 y4 ) (cwV 4 hts gL_law_X7_share rfl rfl rfl (by decide +kernel) ⟨(Nat.le_of_ble_eq_true rfl), (Nat.le_of_ble_eq_true rfl)⟩) (wr_preV (va_P_r hP) (va_D_r hD) hKi rfl (q0 := 0) rfl) rfl rfl hl.1 rfl (lv_room (Nat.le_of_ble_eq_true rfl)) dL_law_1145 ⟨(Nat.le_of_ble_eq_true rfl), (Nat.le_of_ble_eq_true rfl)⟩) hP hD hS hA [hm, a0, a1, a3, a5, a6, a8, a12] rfl rfl (fun H locs hP hD hS => ?_)
  refine W.lcmp hx hb dL_law_1148 ?_
  have he := e_share ab be y1 y2 y3 y4
  refine lv_if_eq (tgt := 1234) hx hb dL_law_1149 (by decide) (fun _ => ?_) (fun q => absurd ((cmp_e _ _).mpr he) q)
  exact kk H locs ⟨sa, sg, tg, tr, ln, fo, ft, fl, fn, ro, tp, tq, per, rea, rn, wo, tn, td, rw, wn, od, sr, a0, a1, a3, a5, a6, a8, a12, sn, tu, fm, we, rm, pm, ra, wm, rv, bs, re, ot, cp, ((fX7_share ab be y1 y2 y3 y4).2.1), ((fX7_share ab be y1 y2 y3 y4).2.2), hh, ⟨hP, hD, hS⟩, hRS, hRF, hRR, hRW, hsb, hb30⟩
set_option maxHeartbeats 4000000 in
set_option maxRecDepth 100000 in
theorem lw_c29 {p : Program} {l : Launch} {e : Env} {s : State} {m : MethodId} {below : List Frame} {meth : Method} {c : Code} {b L : Nat} {xs : Nat → Int32} (C0 : lw_At p s m meth c b L xs) {D : va_G} {cI cS : ClassId} (hK : kI D [(cI, .int), (cS, .object RX5)] s) {i h hm : Nat} {H : Heap} {locs : List Loc} {ls : Array Slot} (S : LWS D cI cS (fun q : Nat => s.heap.size ≤ q) s.heap h hm H locs) (hl : lv_has ls 4 [(0, .ref b), (1, .ref h), (2, .ref hm), (3, .int (nI i))]) (h1 : vp_in (nI i + 1) L) (h2 : vp_in (nI i + 2) L) (h3 : vp_in (nI i + 3) L) (kk : ∀ (H : Heap) (locs : List Loc), LWS D cI cS (fun q : Nat => s.heap.size ≤ q) s.heap h hm H locs → W p l e room_1 s m #[Value.ref b] below meth c H locs 600000 7302250 (lw_Z below #[Value.ref b] s) (F0 m 1234 ls [])) : W p l e room_1 s m #[Value.ref b] below meth c H locs 600000 7302250 (lw_Z below #[Value.ref b] s) (F0 m 1154 ls []) := by
  obtain ⟨hx, hb, hr, hml, hown, hts, hX, hbl, hlocks, hgv⟩ := C0
  have hts := fun w h => hts w (wsL_law_in w h)
  have hown : s.vm.findClass RL = some m.cls := hown
  have hA : ∀ q : Nat, s.heap.size ≤ q → (fun q : Nat => s.heap.size ≤ q) q := fun _ h => h
  have hbA : ¬ (fun q : Nat => s.heap.size ≤ q) b := Nat.not_le.mpr hbl
  have hKi := hK.sub [0] (tys' := [(cI, .int)]) rfl
  obtain ⟨sa, sg, tg, tr, ln, fo, ft, fl, fn, ro, tp, tq, per, rea, rn, wo, tn, td, rw, wn, od, sr, a0, a1, a3, a5, a6, a8, a12, sn, tu, fm, we, rm, pm, ra, wm, rv, bs, re, ot, cp, ab, be, hh, ⟨hP, hD, hS⟩, hRS, hRF, hRR, hRW, hsb, hb30⟩ := S
  obtain ⟨y1, hy1⟩ : ∃ y : Int32, y = xs (nI i + 1).toNatClampNeg := ⟨_, rfl⟩
  obtain ⟨y2, hy2⟩ : ∃ y : Int32, y = xs (nI i + 2).toNatClampNeg := ⟨_, rfl⟩
  obtain ⟨y3, hy3⟩ : ∃ y : Int32, y = xs (nI i + 3).toNatClampNeg := ⟨_, rfl⟩
  refine lv_aload_n hx hb dL_law_1154 rfl (lv_at hl 1 rfl) ?_
  refine lv_aload_n hx hb dL_law_1155 rfl (lv_at hl 0 rfl) ?_
  refine lv_iload_n hx hb dL_law_1156 rfl (lv_at hl 3 rfl) ?_
  refine lv_iconst (v := 1) hx hb dL_law_1157 (by decide) ?_
  refine lv_iadd hx hb dL_law_1158 ?_
  refine va_sld hx hb hX hbl hbA hS h1 dL_law_1159 ?_
  rw [← hy1]
  refine lv_aload_n hx hb dL_law_1160 rfl (lv_at hl 0 rfl) ?_
  refine lv_iload_n hx hb dL_law_1161 rfl (lv_at hl 3 rfl) ?_
  refine lv_iconst (v := 2) hx hb dL_law_1162 (by decide) ?_
  refine lv_iadd hx hb dL_law_1163 ?_
  refine va_sld hx hb hX hbl hbA hS h2 dL_law_1164 ?_
  rw [← hy2]
  refine lv_aload_n hx hb dL_law_1165 rfl (lv_at hl 0 rfl) ?_
  refine lv_iload_n hx hb dL_law_1166 rfl (lv_at hl 3 rfl) ?_
  refine lv_iconst (v := 3) hx hb dL_law_1167 (by decide) ?_
  refine lv_iadd hx hb dL_law_1168 ?_
  refine va_sld hx hb hX hbl hbA hS h3 dL_law_1169 ?_
  rw [← hy3]
  refine cs_i (va_runV (As := [.int y1, .int y2, .int y3]) (rest := []) ⟨hx, hb, hml, hown, hts⟩ (c_X6_scale l D cI cS h sa sg tg tr ln fo ft fl fn ro tp tq per rea rn wo tn td rw wn od sr y1 y2 y3 ) (cwV 3 hts gL_law_X6_scale rfl rfl rfl (by decide +kernel) ⟨(Nat.le_of_ble_eq_true rfl), (Nat.le_of_ble_eq_true rfl)⟩) (ro_preV (va_P_l hP) hK rfl (q0 := 0) rfl) rfl rfl hl.1 rfl (lv_room (Nat.le_of_ble_eq_true rfl)) dL_law_1170 ⟨(Nat.le_of_ble_eq_true rfl), (Nat.le_of_ble_eq_true rfl)⟩) ?_
  refine lv_aload_n hx hb dL_law_1173 rfl (lv_at hl 2 rfl) ?_
  refine lv_aload_n hx hb dL_law_1174 rfl (lv_at hl 0 rfl) ?_
  refine lv_iload_n hx hb dL_law_1175 rfl (lv_at hl 3 rfl) ?_
  refine lv_iconst (v := 1) hx hb dL_law_1176 (by decide) ?_
  refine lv_iadd hx hb dL_law_1177 ?_
  refine va_sld hx hb hX hbl hbA hS h1 dL_law_1178 ?_
  rw [← hy1]
  refine lv_aload_n hx hb dL_law_1179 rfl (lv_at hl 0 rfl) ?_
  refine lv_iload_n hx hb dL_law_1180 rfl (lv_at hl 3 rfl) ?_
  refine lv_iconst (v := 2) hx hb dL_law_1181 (by decide) ?_
  refine lv_iadd hx hb dL_law_1182 ?_
  refine va_sld hx hb hX hbl hbA hS h2 dL_law_1183 ?_
  rw [← hy2]
  refine lv_aload_n hx hb dL_law_1184 rfl (lv_at hl 0 rfl) ?_
  refine lv_iload_n hx hb dL_law_1185 rfl (lv_at hl 3 rfl) ?_
  refine lv_iconst (v := 3) hx hb dL_law_1186 (by decide) ?_
  refine lv_iadd hx hb dL_law_1187 ?_
  refine va_sld hx hb hX hbl hbA hS h3 dL_law_1188 ?_
  rw [← hy3]
  refine cr_i (va_runV (As := [.int y1, .int y2, .int y3]) (rest := [.int (fX6_scale y1 y2 y3)]) ⟨hx, hb, hml, hown, hts⟩ (c_X7_scale l D cI H.size hm a0 a1 a3 a5 a6 a8 a12 sn tu fm we rm pm ra wm rv bs re ot cp ab be hh y1 y2 y3 ) (cwV 3 hts gL_law_X7_scale rfl rfl rfl (by decide +kernel) ⟨(Nat.le_of_ble_eq_true rfl), (Nat.le_of_ble_eq_true rfl)⟩) (wr_preV (va_P_r hP) (va_D_r hD) hKi rfl (q0 := 0) rfl) rfl rfl hl.1 rfl (lv_room (Nat.le_of_ble_eq_true rfl)) dL_law_1189 ⟨(Nat.le_of_ble_eq_true rfl), (Nat.le_of_ble_eq_true rfl)⟩) hP hD hS hA [hm, a0, a1, a3, a5, a6, a8, a12] rfl rfl (fun H locs hP hD hS => ?_)
  have he := e_scale ab be y1 y2 y3
  refine lv_icmp_eq (tgt := 1234) hx hb dL_law_1192 (by decide) (fun _ => ?_) (fun q => absurd he q)
  exact kk H locs ⟨sa, sg, tg, tr, ln, fo, ft, fl, fn, ro, tp, tq, per, rea, rn, wo, tn, td, rw, wn, od, sr, a0, a1, a3, a5, a6, a8, a12, sn, tu, fm, we, rm, pm, ra, wm, rv, bs, re, ot, cp, ((fX7_scale ab be y1 y2 y3).2.1), ((fX7_scale ab be y1 y2 y3).2.2), hh, ⟨hP, hD, hS⟩, hRS, hRF, hRR, hRW, hsb, hb30⟩
set_option maxHeartbeats 4000000 in
set_option maxRecDepth 100000 in
theorem lw_c30 {p : Program} {l : Launch} {e : Env} {s : State} {m : MethodId} {below : List Frame} {meth : Method} {c : Code} {b L : Nat} {xs : Nat → Int32} (C0 : lw_At p s m meth c b L xs) {D : va_G} {cI cS : ClassId} (hK : kI D [(cI, .int), (cS, .object RX5)] s) {i h hm : Nat} {H : Heap} {locs : List Loc} {ls : Array Slot} (S : LWS D cI cS (fun q : Nat => s.heap.size ≤ q) s.heap h hm H locs) (hl : lv_has ls 4 [(0, .ref b), (1, .ref h), (2, .ref hm), (3, .int (nI i))]) (h1 : vp_in (nI i + 1) L) (kk : ∀ (H : Heap) (locs : List Loc), LWS D cI cS (fun q : Nat => s.heap.size ≤ q) s.heap h hm H locs → W p l e room_1 s m #[Value.ref b] below meth c H locs 600000 7302250 (lw_Z below #[Value.ref b] s) (F0 m 1234 ls [])) : W p l e room_1 s m #[Value.ref b] below meth c H locs 600000 7302250 (lw_Z below #[Value.ref b] s) (F0 m 1197 ls []) := by
  obtain ⟨hx, hb, hr, hml, hown, hts, hX, hbl, hlocks, hgv⟩ := C0
  have hts := fun w h => hts w (wsL_law_in w h)
  have hown : s.vm.findClass RL = some m.cls := hown
  have hA : ∀ q : Nat, s.heap.size ≤ q → (fun q : Nat => s.heap.size ≤ q) q := fun _ h => h
  have hbA : ¬ (fun q : Nat => s.heap.size ≤ q) b := Nat.not_le.mpr hbl
  have hKi := hK.sub [0] (tys' := [(cI, .int)]) rfl
  obtain ⟨sa, sg, tg, tr, ln, fo, ft, fl, fn, ro, tp, tq, per, rea, rn, wo, tn, td, rw, wn, od, sr, a0, a1, a3, a5, a6, a8, a12, sn, tu, fm, we, rm, pm, ra, wm, rv, bs, re, ot, cp, ab, be, hh, ⟨hP, hD, hS⟩, hRS, hRF, hRR, hRW, hsb, hb30⟩ := S
  obtain ⟨y1, hy1⟩ : ∃ y : Int32, y = xs (nI i + 1).toNatClampNeg := ⟨_, rfl⟩
  refine lv_aload_n hx hb dL_law_1197 rfl (lv_at hl 1 rfl) ?_
  refine lv_aload_n hx hb dL_law_1198 rfl (lv_at hl 0 rfl) ?_
  refine lv_iload_n hx hb dL_law_1199 rfl (lv_at hl 3 rfl) ?_
  refine lv_iconst (v := 1) hx hb dL_law_1200 (by decide) ?_
  refine lv_iadd hx hb dL_law_1201 ?_
  refine va_sld hx hb hX hbl hbA hS h1 dL_law_1202 ?_
  rw [← hy1]
  refine cs_i (va_runV (As := [.int y1]) (rest := []) ⟨hx, hb, hml, hown, hts⟩ (c_X6_told l D cI cS h sa sg tg tr ln fo ft fl fn ro tp tq per rea rn wo tn td rw wn od sr y1 ) (cwV 1 hts gL_law_X6_told rfl rfl rfl (by decide +kernel) ⟨(Nat.le_of_ble_eq_true rfl), (Nat.le_of_ble_eq_true rfl)⟩) (ro_preV (va_P_l hP) hK rfl (q0 := 0) rfl) rfl rfl hl.1 rfl (lv_room (Nat.le_of_ble_eq_true rfl)) dL_law_1203 ⟨(Nat.le_of_ble_eq_true rfl), (Nat.le_of_ble_eq_true rfl)⟩) ?_
  refine lv_aload_n hx hb dL_law_1206 rfl (lv_at hl 2 rfl) ?_
  refine lv_aload_n hx hb dL_law_1207 rfl (lv_at hl 0 rfl) ?_
  refine lv_iload_n hx hb dL_law_1208 rfl (lv_at hl 3 rfl) ?_
  refine lv_iconst (v := 1) hx hb dL_law_1209 (by decide) ?_
  refine lv_iadd hx hb dL_law_1210 ?_
  refine va_sld hx hb hX hbl hbA hS h1 dL_law_1211 ?_
  rw [← hy1]
  refine cs_i (va_runV (As := [.int y1]) (rest := [.int (fX6_told fn rn wn sr y1)]) ⟨hx, hb, hml, hown, hts⟩ (c_X7_told l D cI hm a0 a1 a3 a5 a6 a8 a12 sn tu fm we rm pm ra wm rv bs re ot cp ab be hh y1 ) (cwV 1 hts gL_law_X7_told rfl rfl rfl (by decide +kernel) ⟨(Nat.le_of_ble_eq_true rfl), (Nat.le_of_ble_eq_true rfl)⟩) (ro_preV (va_P_r hP) hKi rfl (q0 := 0) rfl) rfl rfl hl.1 rfl (lv_room (Nat.le_of_ble_eq_true rfl)) dL_law_1212 ⟨(Nat.le_of_ble_eq_true rfl), (Nat.le_of_ble_eq_true rfl)⟩) ?_
  have he := e_told hRF.1 hRR.1 hRW.1 hsb y1
  refine lv_icmp_eq (tgt := 1234) hx hb dL_law_1215 (by decide) (fun _ => ?_) (fun q => absurd he q)
  exact kk H locs ⟨sa, sg, tg, tr, ln, fo, ft, fl, fn, ro, tp, tq, per, rea, rn, wo, tn, td, rw, wn, od, sr, a0, a1, a3, a5, a6, a8, a12, sn, tu, fm, we, rm, pm, ra, wm, rv, bs, re, ot, cp, ab, be, hh, ⟨hP, hD, hS⟩, hRS, hRF, hRR, hRW, hsb, hb30⟩
set_option maxHeartbeats 4000000 in
set_option maxRecDepth 100000 in
theorem lw_c31 {p : Program} {l : Launch} {e : Env} {s : State} {m : MethodId} {below : List Frame} {meth : Method} {c : Code} {b L : Nat} {xs : Nat → Int32} (C0 : lw_At p s m meth c b L xs) {D : va_G} {cI cS : ClassId} (hK : kI D [(cI, .int), (cS, .object RX5)] s) {i h hm : Nat} {H : Heap} {locs : List Loc} {ls : Array Slot} (S : LWS D cI cS (fun q : Nat => s.heap.size ≤ q) s.heap h hm H locs) (hl : lv_has ls 4 [(0, .ref b), (1, .ref h), (2, .ref hm), (3, .int (nI i))])  (kk : ∀ (H : Heap) (locs : List Loc), LWS D cI cS (fun q : Nat => s.heap.size ≤ q) s.heap h hm H locs → W p l e room_1 s m #[Value.ref b] below meth c H locs 600000 7302250 (lw_Z below #[Value.ref b] s) (F0 m 1234 ls [])) : W p l e room_1 s m #[Value.ref b] below meth c H locs 600000 7302250 (lw_Z below #[Value.ref b] s) (F0 m 1220 ls []) := by
  obtain ⟨hx, hb, hr, hml, hown, hts, hX, hbl, hlocks, hgv⟩ := C0
  have hts := fun w h => hts w (wsL_law_in w h)
  have hown : s.vm.findClass RL = some m.cls := hown
  have hA : ∀ q : Nat, s.heap.size ≤ q → (fun q : Nat => s.heap.size ≤ q) q := fun _ h => h
  have hbA : ¬ (fun q : Nat => s.heap.size ≤ q) b := Nat.not_le.mpr hbl
  have hKi := hK.sub [0] (tys' := [(cI, .int)]) rfl
  obtain ⟨sa, sg, tg, tr, ln, fo, ft, fl, fn, ro, tp, tq, per, rea, rn, wo, tn, td, rw, wn, od, sr, a0, a1, a3, a5, a6, a8, a12, sn, tu, fm, we, rm, pm, ra, wm, rv, bs, re, ot, cp, ab, be, hh, ⟨hP, hD, hS⟩, hRS, hRF, hRR, hRW, hsb, hb30⟩ := S
  refine lv_aload_n hx hb dL_law_1220 rfl (lv_at hl 1 rfl) ?_
  refine cs_l (va_runV (As := []) (rest := []) ⟨hx, hb, hml, hown, hts⟩ (c_X6_digest l D cI cS h sa sg tg tr ln fo ft fl fn ro tp tq per rea rn wo tn td rw wn od sr  hRS.hln hRF.hfn hRR.hrn hRW.hwn) (cwV 0 hts gL_law_X6_digest rfl rfl rfl (by decide +kernel) ⟨(Nat.le_of_ble_eq_true rfl), (Nat.le_of_ble_eq_true rfl)⟩) (ro_preV (va_P_l hP) hK rfl (q0 := 0) rfl) rfl rfl hl.1 rfl (lv_room (Nat.le_of_ble_eq_true rfl)) dL_law_1221 ⟨(Nat.le_of_ble_eq_true rfl), (Nat.le_of_ble_eq_true rfl)⟩) ?_
  refine lv_aload_n hx hb dL_law_1224 rfl (lv_at hl 2 rfl) ?_
  refine cr_l (va_runV (As := []) (rest := [.long (fX6_digest tr ln fl fn per rea rn rw wn sr)]) ⟨hx, hb, hml, hown, hts⟩ (c_X7_digest l D cI H.size hm a0 a1 a3 a5 a6 a8 a12 sn tu fm we rm pm ra wm rv bs re ot cp ab be hh  hRS.hsn hRF.hfm hRR.hrm hRW.hwm) (cwV 0 hts gL_law_X7_digest rfl rfl rfl (by decide +kernel) ⟨(Nat.le_of_ble_eq_true rfl), (Nat.le_of_ble_eq_true rfl)⟩) (wr_preV (va_P_r hP) (va_D_r hD) hKi rfl (q0 := 0) rfl) rfl rfl hl.1 rfl (lv_room (Nat.le_of_ble_eq_true rfl)) dL_law_1225 ⟨(Nat.le_of_ble_eq_true rfl), (Nat.le_of_ble_eq_true rfl)⟩) hP hD hS hA [hm, a0, a1, a3, a5, a6, a8, a12] rfl rfl (fun H locs hP hD hS => ?_)
  refine W.lcmp hx hb dL_law_1228 ?_
  have he := e_digest hRS hRF hRR hRW hsb
  refine lv_if_eq (tgt := 1234) hx hb dL_law_1229 (by decide) (fun _ => ?_) (fun q => absurd ((cmp_e _ _).mpr he) q)
  exact kk H locs ⟨sa, sg, tg, tr, ln, fo, ft, fl, fn, ro, tp, tq, per, rea, rn, wo, tn, td, rw, wn, od, sr, a0, a1, a3, a5, a6, a8, a12, sn, tu, fm, we, rm, pm, ra, wm, rv, bs, re, ot, cp, ab, be, ((fX7_digest sn tu fm we rm pm ra wm rv bs).2), ⟨hP, hD, hS⟩, hRS, hRF, hRR, hRW, hsb, hb30⟩
