set_option maxHeartbeats 4000000 in
set_option maxRecDepth 100000 in
theorem lw_c0 {p : Program} {l : Launch} {e : Env} {s : State} {m : MethodId} {below : List Frame} {meth : Method} {c : Code} {b L : Nat} {xs : Nat → Int32} (C0 : lw_At p s m meth c b L xs) {D : va_G} {cI cS : ClassId} (hK : kI D [(cI, .int), (cS, .object RX5)] s) {i h hm : Nat} {H : Heap} {locs : List Loc} {ls : Array Slot} (S : LWS D cI cS (fun q : Nat => s.heap.size ≤ q) s.heap h hm H locs) (hl : lv_has ls 4 [(0, .ref b), (1, .ref h), (2, .ref hm), (3, .int (nI i))]) (h1 : vp_in (nI i + 1) L) (h2 : vp_in (nI i + 2) L) (kk : ∀ (H : Heap) (locs : List Loc), LWS D cI cS (fun q : Nat => s.heap.size ≤ q) s.heap h hm H locs → W p l e room_1 s m #[Value.ref b] below meth c H locs 600000 7302250 (lw_Z below #[Value.ref b] s) (F0 m 1234 ls [])) : W p l e room_1 s m #[Value.ref b] below meth c H locs 600000 7302250 (lw_Z below #[Value.ref b] s) (F0 m 176 ls []) := by
  obtain ⟨hx, hb, hr, hml, hown, hts, hX, hbl, hlocks, hgv⟩ := C0
  have hts := fun w h => hts w (wsL_law_in w h)
  have hown : s.vm.findClass RL = some m.cls := hown
  have hA : ∀ q : Nat, s.heap.size ≤ q → (fun q : Nat => s.heap.size ≤ q) q := fun _ h => h
  have hbA : ¬ (fun q : Nat => s.heap.size ≤ q) b := Nat.not_le.mpr hbl
  have hKi := hK.sub [0] (tys' := [(cI, .int)]) rfl
  obtain ⟨sa, sg, tg, tr, ln, fo, ft, fl, fn, ro, tp, tq, per, rea, rn, wo, tn, td, rw, wn, od, sr, a0, a1, a3, a5, a6, a8, a12, sn, tu, fm, we, rm, pm, ra, wm, rv, bs, re, ot, cp, ab, be, hh, ⟨hP, hD, hS⟩, hRS, hRF, hRR, hRW, hsb, hb30⟩ := S
  obtain ⟨y1, hy1⟩ : ∃ y : Int32, y = xs (nI i + 1).toNatClampNeg := ⟨_, rfl⟩
  obtain ⟨y2, hy2⟩ : ∃ y : Int32, y = xs (nI i + 2).toNatClampNeg := ⟨_, rfl⟩
  refine lv_aload_n hx hb dL_law_176 rfl (lv_at hl 1 rfl) ?_
  refine lv_aload_n hx hb dL_law_177 rfl (lv_at hl 0 rfl) ?_
  refine lv_iload_n hx hb dL_law_178 rfl (lv_at hl 3 rfl) ?_
  refine lv_iconst (v := 1) hx hb dL_law_179 (by decide) ?_
  refine lv_iadd hx hb dL_law_180 ?_
  refine va_sld hx hb hX hbl hbA hS h1 dL_law_181 ?_
  rw [← hy1]
  refine lv_aload_n hx hb dL_law_182 rfl (lv_at hl 0 rfl) ?_
  refine lv_iload_n hx hb dL_law_183 rfl (lv_at hl 3 rfl) ?_
  refine lv_iconst (v := 2) hx hb dL_law_184 (by decide) ?_
  refine lv_iadd hx hb dL_law_185 ?_
  refine va_sld hx hb hX hbl hbA hS h2 dL_law_186 ?_
  rw [← hy2]
  refine cl_i (va_runV (As := [.int y1, .int y2]) (rest := []) ⟨hx, hb, hml, hown, hts⟩ (c_X6_size l D cI cS H.size h sa sg tg tr ln fo ft fl fn ro tp tq per rea rn wo tn td rw wn od sr y1 y2 hRS.hln) (cwV 2 hts gL_law_X6_size rfl rfl rfl (by decide +kernel) ⟨(Nat.le_of_ble_eq_true rfl), (Nat.le_of_ble_eq_true rfl)⟩) (wr_preV (va_P_l hP) (va_D_l hD) hK rfl (q0 := 0) rfl) rfl rfl hl.1 rfl (lv_room (Nat.le_of_ble_eq_true rfl)) dL_law_187 ⟨(Nat.le_of_ble_eq_true rfl), (Nat.le_of_ble_eq_true rfl)⟩) hP hD hS hA [h, sa, sg 0, tg 0, sg 1, tg 1, sg 2, tg 2, sg 3, tg 3, sg 4, tg 4, sg 5, tg 5, fo, ft, ro, tp, tq, wo, tn, td] rfl rfl (fun H locs hP hD hS => ?_)
  refine lv_aload_n hx hb dL_law_190 rfl (lv_at hl 2 rfl) ?_
  refine lv_aload_n hx hb dL_law_191 rfl (lv_at hl 0 rfl) ?_
  refine lv_iload_n hx hb dL_law_192 rfl (lv_at hl 3 rfl) ?_
  refine lv_iconst (v := 1) hx hb dL_law_193 (by decide) ?_
  refine lv_iadd hx hb dL_law_194 ?_
  refine va_sld hx hb hX hbl hbA hS h1 dL_law_195 ?_
  rw [← hy1]
  refine lv_aload_n hx hb dL_law_196 rfl (lv_at hl 0 rfl) ?_
  refine lv_iload_n hx hb dL_law_197 rfl (lv_at hl 3 rfl) ?_
  refine lv_iconst (v := 2) hx hb dL_law_198 (by decide) ?_
  refine lv_iadd hx hb dL_law_199 ?_
  refine va_sld hx hb hX hbl hbA hS h2 dL_law_200 ?_
  rw [← hy2]
  refine cr_i (va_runV (As := [.int y1, .int y2]) (rest := [.int ((fX6_size tr ln y1 y2).1)]) ⟨hx, hb, hml, hown, hts⟩ (c_X7_size l D cI H.size hm a0 a1 a3 a5 a6 a8 a12 sn tu fm we rm pm ra wm rv bs re ot cp ab be hh y1 y2 ) (cwV 2 hts gL_law_X7_size rfl rfl rfl (by decide +kernel) ⟨(Nat.le_of_ble_eq_true rfl), (Nat.le_of_ble_eq_true rfl)⟩) (wr_preV (va_P_r hP) (va_D_r hD) hKi rfl (q0 := 0) rfl) rfl rfl hl.1 rfl (lv_room (Nat.le_of_ble_eq_true rfl)) dL_law_201 ⟨(Nat.le_of_ble_eq_true rfl), (Nat.le_of_ble_eq_true rfl)⟩) hP hD hS hA [hm, a0, a1, a3, a5, a6, a8, a12] rfl rfl (fun H locs hP hD hS => ?_)
  have he := e_size hRS y1 y2
  refine lv_icmp_eq (tgt := 1234) hx hb dL_law_204 (by decide) (fun _ => ?_) (fun q => absurd he.1 q)
  exact kk H locs ⟨sa, sg, tg, ((fX6_size tr ln y1 y2).2.1), ((fX6_size tr ln y1 y2).2.2), fo, ft, fl, fn, ro, tp, tq, per, rea, rn, wo, tn, td, rw, wn, od, sr, a0, a1, a3, a5, a6, a8, a12, ((fX7_size sn tu y1 y2).2.1), ((fX7_size sn tu y1 y2).2.2), fm, we, rm, pm, ra, wm, rv, bs, re, ot, cp, ab, be, hh, ⟨hP, hD, hS⟩, he.2, hRF, hRR, hRW, hsb, hb30⟩
set_option maxHeartbeats 4000000 in
set_option maxRecDepth 100000 in
theorem lw_c1 {p : Program} {l : Launch} {e : Env} {s : State} {m : MethodId} {below : List Frame} {meth : Method} {c : Code} {b L : Nat} {xs : Nat → Int32} (C0 : lw_At p s m meth c b L xs) {D : va_G} {cI cS : ClassId} (hK : kI D [(cI, .int), (cS, .object RX5)] s) {i h hm : Nat} {H : Heap} {locs : List Loc} {ls : Array Slot} (S : LWS D cI cS (fun q : Nat => s.heap.size ≤ q) s.heap h hm H locs) (hl : lv_has ls 4 [(0, .ref b), (1, .ref h), (2, .ref hm), (3, .int (nI i))]) (h1 : vp_in (nI i + 1) L) (h2 : vp_in (nI i + 2) L) (h3 : vp_in (nI i + 3) L) (kk : ∀ (H : Heap) (locs : List Loc), LWS D cI cS (fun q : Nat => s.heap.size ≤ q) s.heap h hm H locs → W p l e room_1 s m #[Value.ref b] below meth c H locs 600000 7302250 (lw_Z below #[Value.ref b] s) (F0 m 1234 ls [])) : W p l e room_1 s m #[Value.ref b] below meth c H locs 600000 7302250 (lw_Z below #[Value.ref b] s) (F0 m 209 ls []) := by
  obtain ⟨hx, hb, hr, hml, hown, hts, hX, hbl, hlocks, hgv⟩ := C0
  have hts := fun w h => hts w (wsL_law_in w h)
  have hown : s.vm.findClass RL = some m.cls := hown
  have hA : ∀ q : Nat, s.heap.size ≤ q → (fun q : Nat => s.heap.size ≤ q) q := fun _ h => h
  have hbA : ¬ (fun q : Nat => s.heap.size ≤ q) b := Nat.not_le.mpr hbl
  have hKi := hK.sub [0] (tys' := [(cI, .int)]) rfl
  obtain ⟨sa, sg, tg, tr, ln, fo, ft, fl, fn, ro, tp, tq, per, rea, rn, wo, tn, td, rw, wn, od, sr, a0, a1, a3, a5, a6, a8, a12, sn, tu, fm, we, rm, pm, ra, wm, rv, bs, re, ot, cp, ab, be, hh, ⟨hP, hD, hS⟩, hRS, hRF, hRR, hRW, hsb, hb30⟩ := S
  obtain ⟨y1, hy1⟩ : ∃ y : Int32, y = xs (nI i + 1).toNatClampNeg := ⟨_, rfl⟩
  obtain ⟨y2, hy2⟩ : ∃ y : Int32, y = xs (nI i + 2).toNatClampNeg := ⟨_, rfl⟩
  obtain ⟨y3, hy3⟩ : ∃ y : Int32, y = xs (nI i + 3).toNatClampNeg := ⟨_, rfl⟩
  refine lv_aload_n hx hb dL_law_209 rfl (lv_at hl 1 rfl) ?_
  refine lv_aload_n hx hb dL_law_210 rfl (lv_at hl 0 rfl) ?_
  refine lv_iload_n hx hb dL_law_211 rfl (lv_at hl 3 rfl) ?_
  refine lv_iconst (v := 1) hx hb dL_law_212 (by decide) ?_
  refine lv_iadd hx hb dL_law_213 ?_
  refine va_sld hx hb hX hbl hbA hS h1 dL_law_214 ?_
  rw [← hy1]
  refine lv_aload_n hx hb dL_law_215 rfl (lv_at hl 0 rfl) ?_
  refine lv_iload_n hx hb dL_law_216 rfl (lv_at hl 3 rfl) ?_
  refine lv_iconst (v := 2) hx hb dL_law_217 (by decide) ?_
  refine lv_iadd hx hb dL_law_218 ?_
  refine va_sld hx hb hX hbl hbA hS h2 dL_law_219 ?_
  rw [← hy2]
  refine lv_aload_n hx hb dL_law_220 rfl (lv_at hl 0 rfl) ?_
  refine lv_iload_n hx hb dL_law_221 rfl (lv_at hl 3 rfl) ?_
  refine lv_iconst (v := 3) hx hb dL_law_222 (by decide) ?_
  refine lv_iadd hx hb dL_law_223 ?_
  refine va_sld hx hb hX hbl hbA hS h3 dL_law_224 ?_
  rw [← hy3]
  refine cl_i (va_runV (As := [.int y1, .int y2, .int y3]) (rest := []) ⟨hx, hb, hml, hown, hts⟩ (c_X6_turn l D cI cS H.size h sa sg tg tr ln fo ft fl fn ro tp tq per rea rn wo tn td rw wn od sr y1 y2 y3 hRS.hln) (cwV 3 hts gL_law_X6_turn rfl rfl rfl (by decide +kernel) ⟨(Nat.le_of_ble_eq_true rfl), (Nat.le_of_ble_eq_true rfl)⟩) (wr_preV (va_P_l hP) (va_D_l hD) hK rfl (q0 := 0) rfl) rfl rfl hl.1 rfl (lv_room (Nat.le_of_ble_eq_true rfl)) dL_law_225 ⟨(Nat.le_of_ble_eq_true rfl), (Nat.le_of_ble_eq_true rfl)⟩) hP hD hS hA [h, sa, sg 0, tg 0, sg 1, tg 1, sg 2, tg 2, sg 3, tg 3, sg 4, tg 4, sg 5, tg 5, fo, ft, ro, tp, tq, wo, tn, td] rfl rfl (fun H locs hP hD hS => ?_)
  refine lv_aload_n hx hb dL_law_228 rfl (lv_at hl 2 rfl) ?_
  refine lv_aload_n hx hb dL_law_229 rfl (lv_at hl 0 rfl) ?_
  refine lv_iload_n hx hb dL_law_230 rfl (lv_at hl 3 rfl) ?_
  refine lv_iconst (v := 1) hx hb dL_law_231 (by decide) ?_
  refine lv_iadd hx hb dL_law_232 ?_
  refine va_sld hx hb hX hbl hbA hS h1 dL_law_233 ?_
  rw [← hy1]
  refine lv_aload_n hx hb dL_law_234 rfl (lv_at hl 0 rfl) ?_
  refine lv_iload_n hx hb dL_law_235 rfl (lv_at hl 3 rfl) ?_
  refine lv_iconst (v := 2) hx hb dL_law_236 (by decide) ?_
  refine lv_iadd hx hb dL_law_237 ?_
  refine va_sld hx hb hX hbl hbA hS h2 dL_law_238 ?_
  rw [← hy2]
  refine lv_aload_n hx hb dL_law_239 rfl (lv_at hl 0 rfl) ?_
  refine lv_iload_n hx hb dL_law_240 rfl (lv_at hl 3 rfl) ?_
  refine lv_iconst (v := 3) hx hb dL_law_241 (by decide) ?_
  refine lv_iadd hx hb dL_law_242 ?_
  refine va_sld hx hb hX hbl hbA hS h3 dL_law_243 ?_
  rw [← hy3]
  refine cr_i (va_runV (As := [.int y1, .int y2, .int y3]) (rest := [.int ((fX6_turn tr ln y1 y2 y3).1)]) ⟨hx, hb, hml, hown, hts⟩ (c_X7_turn l D cI H.size hm a0 a1 a3 a5 a6 a8 a12 sn tu fm we rm pm ra wm rv bs re ot cp ab be hh y1 y2 y3 hRS.hsn) (cwV 3 hts gL_law_X7_turn rfl rfl rfl (by decide +kernel) ⟨(Nat.le_of_ble_eq_true rfl), (Nat.le_of_ble_eq_true rfl)⟩) (wr_preV (va_P_r hP) (va_D_r hD) hKi rfl (q0 := 0) rfl) rfl rfl hl.1 rfl (lv_room (Nat.le_of_ble_eq_true rfl)) dL_law_244 ⟨(Nat.le_of_ble_eq_true rfl), (Nat.le_of_ble_eq_true rfl)⟩) hP hD hS hA [hm, a0, a1, a3, a5, a6, a8, a12] rfl rfl (fun H locs hP hD hS => ?_)
  have he := e_turn hRS y1 y2 y3
  refine lv_icmp_eq (tgt := 1234) hx hb dL_law_247 (by decide) (fun _ => ?_) (fun q => absurd he.1 q)
  exact kk H locs ⟨sa, sg, tg, ((fX6_turn tr ln y1 y2 y3).2), ln, fo, ft, fl, fn, ro, tp, tq, per, rea, rn, wo, tn, td, rw, wn, od, sr, a0, a1, a3, a5, a6, a8, a12, sn, ((fX7_turn sn tu y1 y2 y3).2), fm, we, rm, pm, ra, wm, rv, bs, re, ot, cp, ab, be, hh, ⟨hP, hD, hS⟩, he.2, hRF, hRR, hRW, hsb, hb30⟩
set_option maxHeartbeats 4000000 in
set_option maxRecDepth 100000 in
theorem lw_c2 {p : Program} {l : Launch} {e : Env} {s : State} {m : MethodId} {below : List Frame} {meth : Method} {c : Code} {b L : Nat} {xs : Nat → Int32} (C0 : lw_At p s m meth c b L xs) {D : va_G} {cI cS : ClassId} (hK : kI D [(cI, .int), (cS, .object RX5)] s) {i h hm : Nat} {H : Heap} {locs : List Loc} {ls : Array Slot} (S : LWS D cI cS (fun q : Nat => s.heap.size ≤ q) s.heap h hm H locs) (hl : lv_has ls 4 [(0, .ref b), (1, .ref h), (2, .ref hm), (3, .int (nI i))]) (h1 : vp_in (nI i + 1) L) (h2 : vp_in (nI i + 2) L) (kk : ∀ (H : Heap) (locs : List Loc), LWS D cI cS (fun q : Nat => s.heap.size ≤ q) s.heap h hm H locs → W p l e room_1 s m #[Value.ref b] below meth c H locs 600000 7302250 (lw_Z below #[Value.ref b] s) (F0 m 1234 ls [])) : W p l e room_1 s m #[Value.ref b] below meth c H locs 600000 7302250 (lw_Z below #[Value.ref b] s) (F0 m 252 ls []) := by
  obtain ⟨hx, hb, hr, hml, hown, hts, hX, hbl, hlocks, hgv⟩ := C0
  have hts := fun w h => hts w (wsL_law_in w h)
  have hown : s.vm.findClass RL = some m.cls := hown
  have hA : ∀ q : Nat, s.heap.size ≤ q → (fun q : Nat => s.heap.size ≤ q) q := fun _ h => h
  have hbA : ¬ (fun q : Nat => s.heap.size ≤ q) b := Nat.not_le.mpr hbl
  have hKi := hK.sub [0] (tys' := [(cI, .int)]) rfl
  obtain ⟨sa, sg, tg, tr, ln, fo, ft, fl, fn, ro, tp, tq, per, rea, rn, wo, tn, td, rw, wn, od, sr, a0, a1, a3, a5, a6, a8, a12, sn, tu, fm, we, rm, pm, ra, wm, rv, bs, re, ot, cp, ab, be, hh, ⟨hP, hD, hS⟩, hRS, hRF, hRR, hRW, hsb, hb30⟩ := S
  obtain ⟨y1, hy1⟩ : ∃ y : Int32, y = xs (nI i + 1).toNatClampNeg := ⟨_, rfl⟩
  obtain ⟨y2, hy2⟩ : ∃ y : Int32, y = xs (nI i + 2).toNatClampNeg := ⟨_, rfl⟩
  refine lv_aload_n hx hb dL_law_252 rfl (lv_at hl 1 rfl) ?_
  refine lv_aload_n hx hb dL_law_253 rfl (lv_at hl 0 rfl) ?_
  refine lv_iload_n hx hb dL_law_254 rfl (lv_at hl 3 rfl) ?_
  refine lv_iconst (v := 1) hx hb dL_law_255 (by decide) ?_
  refine lv_iadd hx hb dL_law_256 ?_
  refine va_sld hx hb hX hbl hbA hS h1 dL_law_257 ?_
  rw [← hy1]
  refine lv_aload_n hx hb dL_law_258 rfl (lv_at hl 0 rfl) ?_
  refine lv_iload_n hx hb dL_law_259 rfl (lv_at hl 3 rfl) ?_
  refine lv_iconst (v := 2) hx hb dL_law_260 (by decide) ?_
  refine lv_iadd hx hb dL_law_261 ?_
  refine va_sld hx hb hX hbl hbA hS h2 dL_law_262 ?_
  rw [← hy2]
  refine cs_i (va_runV (As := [.int y1, .int y2]) (rest := []) ⟨hx, hb, hml, hown, hts⟩ (c_X6_turned l D cI cS h sa sg tg tr ln fo ft fl fn ro tp tq per rea rn wo tn td rw wn od sr y1 y2 hRS.hln) (cwV 2 hts gL_law_X6_turned rfl rfl rfl (by decide +kernel) ⟨(Nat.le_of_ble_eq_true rfl), (Nat.le_of_ble_eq_true rfl)⟩) (ro_preV (va_P_l hP) hK rfl (q0 := 0) rfl) rfl rfl hl.1 rfl (lv_room (Nat.le_of_ble_eq_true rfl)) dL_law_263 ⟨(Nat.le_of_ble_eq_true rfl), (Nat.le_of_ble_eq_true rfl)⟩) ?_
  refine lv_aload_n hx hb dL_law_266 rfl (lv_at hl 2 rfl) ?_
  refine lv_aload_n hx hb dL_law_267 rfl (lv_at hl 0 rfl) ?_
  refine lv_iload_n hx hb dL_law_268 rfl (lv_at hl 3 rfl) ?_
  refine lv_iconst (v := 1) hx hb dL_law_269 (by decide) ?_
  refine lv_iadd hx hb dL_law_270 ?_
  refine va_sld hx hb hX hbl hbA hS h1 dL_law_271 ?_
  rw [← hy1]
  refine lv_aload_n hx hb dL_law_272 rfl (lv_at hl 0 rfl) ?_
  refine lv_iload_n hx hb dL_law_273 rfl (lv_at hl 3 rfl) ?_
  refine lv_iconst (v := 2) hx hb dL_law_274 (by decide) ?_
  refine lv_iadd hx hb dL_law_275 ?_
  refine va_sld hx hb hX hbl hbA hS h2 dL_law_276 ?_
  rw [← hy2]
  refine cs_i (va_runV (As := [.int y1, .int y2]) (rest := [.int (fX6_turned tr ln y1 y2)]) ⟨hx, hb, hml, hown, hts⟩ (c_X7_turned l D cI hm a0 a1 a3 a5 a6 a8 a12 sn tu fm we rm pm ra wm rv bs re ot cp ab be hh y1 y2 hRS.hsn) (cwV 2 hts gL_law_X7_turned rfl rfl rfl (by decide +kernel) ⟨(Nat.le_of_ble_eq_true rfl), (Nat.le_of_ble_eq_true rfl)⟩) (ro_preV (va_P_r hP) hKi rfl (q0 := 0) rfl) rfl rfl hl.1 rfl (lv_room (Nat.le_of_ble_eq_true rfl)) dL_law_277 ⟨(Nat.le_of_ble_eq_true rfl), (Nat.le_of_ble_eq_true rfl)⟩) ?_
  have he := e_turned hRS y1 y2
  refine lv_icmp_eq (tgt := 1234) hx hb dL_law_280 (by decide) (fun _ => ?_) (fun q => absurd he q)
  exact kk H locs ⟨sa, sg, tg, tr, ln, fo, ft, fl, fn, ro, tp, tq, per, rea, rn, wo, tn, td, rw, wn, od, sr, a0, a1, a3, a5, a6, a8, a12, sn, tu, fm, we, rm, pm, ra, wm, rv, bs, re, ot, cp, ab, be, hh, ⟨hP, hD, hS⟩, hRS, hRF, hRR, hRW, hsb, hb30⟩
set_option maxHeartbeats 4000000 in
set_option maxRecDepth 100000 in
theorem lw_c3 {p : Program} {l : Launch} {e : Env} {s : State} {m : MethodId} {below : List Frame} {meth : Method} {c : Code} {b L : Nat} {xs : Nat → Int32} (C0 : lw_At p s m meth c b L xs) {D : va_G} {cI cS : ClassId} (hK : kI D [(cI, .int), (cS, .object RX5)] s) {i h hm : Nat} {H : Heap} {locs : List Loc} {ls : Array Slot} (S : LWS D cI cS (fun q : Nat => s.heap.size ≤ q) s.heap h hm H locs) (hl : lv_has ls 4 [(0, .ref b), (1, .ref h), (2, .ref hm), (3, .int (nI i))]) (h1 : vp_in (nI i + 1) L) (h2 : vp_in (nI i + 2) L) (h3 : vp_in (nI i + 3) L) (kk : ∀ (H : Heap) (locs : List Loc), LWS D cI cS (fun q : Nat => s.heap.size ≤ q) s.heap h hm H locs → W p l e room_1 s m #[Value.ref b] below meth c H locs 600000 7302250 (lw_Z below #[Value.ref b] s) (F0 m 1234 ls [])) : W p l e room_1 s m #[Value.ref b] below meth c H locs 600000 7302250 (lw_Z below #[Value.ref b] s) (F0 m 285 ls []) := by
  obtain ⟨hx, hb, hr, hml, hown, hts, hX, hbl, hlocks, hgv⟩ := C0
  have hts := fun w h => hts w (wsL_law_in w h)
  have hown : s.vm.findClass RL = some m.cls := hown
  have hA : ∀ q : Nat, s.heap.size ≤ q → (fun q : Nat => s.heap.size ≤ q) q := fun _ h => h
  have hbA : ¬ (fun q : Nat => s.heap.size ≤ q) b := Nat.not_le.mpr hbl
  have hKi := hK.sub [0] (tys' := [(cI, .int)]) rfl
  obtain ⟨sa, sg, tg, tr, ln, fo, ft, fl, fn, ro, tp, tq, per, rea, rn, wo, tn, td, rw, wn, od, sr, a0, a1, a3, a5, a6, a8, a12, sn, tu, fm, we, rm, pm, ra, wm, rv, bs, re, ot, cp, ab, be, hh, ⟨hP, hD, hS⟩, hRS, hRF, hRR, hRW, hsb, hb30⟩ := S
  obtain ⟨y1, hy1⟩ : ∃ y : Int32, y = xs (nI i + 1).toNatClampNeg := ⟨_, rfl⟩
  obtain ⟨y2, hy2⟩ : ∃ y : Int32, y = xs (nI i + 2).toNatClampNeg := ⟨_, rfl⟩
  obtain ⟨y3, hy3⟩ : ∃ y : Int32, y = xs (nI i + 3).toNatClampNeg := ⟨_, rfl⟩
  refine lv_aload_n hx hb dL_law_285 rfl (lv_at hl 1 rfl) ?_
  refine lv_aload_n hx hb dL_law_286 rfl (lv_at hl 0 rfl) ?_
  refine lv_iload_n hx hb dL_law_287 rfl (lv_at hl 3 rfl) ?_
  refine lv_iconst (v := 1) hx hb dL_law_288 (by decide) ?_
  refine lv_iadd hx hb dL_law_289 ?_
  refine va_sld hx hb hX hbl hbA hS h1 dL_law_290 ?_
  rw [← hy1]
  refine lv_aload_n hx hb dL_law_291 rfl (lv_at hl 0 rfl) ?_
  refine lv_iload_n hx hb dL_law_292 rfl (lv_at hl 3 rfl) ?_
  refine lv_iconst (v := 2) hx hb dL_law_293 (by decide) ?_
  refine lv_iadd hx hb dL_law_294 ?_
  refine va_sld hx hb hX hbl hbA hS h2 dL_law_295 ?_
  rw [← hy2]
  refine lv_aload_n hx hb dL_law_296 rfl (lv_at hl 0 rfl) ?_
  refine lv_iload_n hx hb dL_law_297 rfl (lv_at hl 3 rfl) ?_
  refine lv_iconst (v := 3) hx hb dL_law_298 (by decide) ?_
  refine lv_iadd hx hb dL_law_299 ?_
  refine va_sld hx hb hX hbl hbA hS h3 dL_law_300 ?_
  rw [← hy3]
  refine cl_i (va_runV (As := [.int y1, .int y2, .int y3]) (rest := []) ⟨hx, hb, hml, hown, hts⟩ (c_X6_made l D cI cS H.size h sa sg tg tr ln fo ft fl fn ro tp tq per rea rn wo tn td rw wn od sr y1 y2 y3 hRS.hln) (cwV 3 hts gL_law_X6_made rfl rfl rfl (by decide +kernel) ⟨(Nat.le_of_ble_eq_true rfl), (Nat.le_of_ble_eq_true rfl)⟩) (wr_preV (va_P_l hP) (va_D_l hD) hK rfl (q0 := 0) rfl) rfl rfl hl.1 rfl (lv_room (Nat.le_of_ble_eq_true rfl)) dL_law_301 ⟨(Nat.le_of_ble_eq_true rfl), (Nat.le_of_ble_eq_true rfl)⟩) hP hD hS hA [h, sa, sg 0, tg 0, sg 1, tg 1, sg 2, tg 2, sg 3, tg 3, sg 4, tg 4, sg 5, tg 5, fo, ft, ro, tp, tq, wo, tn, td] rfl rfl (fun H locs hP hD hS => ?_)
  refine lv_aload_n hx hb dL_law_304 rfl (lv_at hl 2 rfl) ?_
  refine lv_aload_n hx hb dL_law_305 rfl (lv_at hl 0 rfl) ?_
  refine lv_iload_n hx hb dL_law_306 rfl (lv_at hl 3 rfl) ?_
  refine lv_iconst (v := 1) hx hb dL_law_307 (by decide) ?_
  refine lv_iadd hx hb dL_law_308 ?_
  refine va_sld hx hb hX hbl hbA hS h1 dL_law_309 ?_
  rw [← hy1]
  refine lv_aload_n hx hb dL_law_310 rfl (lv_at hl 0 rfl) ?_
  refine lv_iload_n hx hb dL_law_311 rfl (lv_at hl 3 rfl) ?_
  refine lv_iconst (v := 2) hx hb dL_law_312 (by decide) ?_
  refine lv_iadd hx hb dL_law_313 ?_
  refine va_sld hx hb hX hbl hbA hS h2 dL_law_314 ?_
  rw [← hy2]
  refine lv_aload_n hx hb dL_law_315 rfl (lv_at hl 0 rfl) ?_
  refine lv_iload_n hx hb dL_law_316 rfl (lv_at hl 3 rfl) ?_
  refine lv_iconst (v := 3) hx hb dL_law_317 (by decide) ?_
  refine lv_iadd hx hb dL_law_318 ?_
  refine va_sld hx hb hX hbl hbA hS h3 dL_law_319 ?_
  rw [← hy3]
  refine cr_i (va_runV (As := [.int y1, .int y2, .int y3]) (rest := [.int ((fX6_made tr ln y1 y2 y3).1)]) ⟨hx, hb, hml, hown, hts⟩ (c_X7_made l D cI H.size hm a0 a1 a3 a5 a6 a8 a12 sn tu fm we rm pm ra wm rv bs re ot cp ab be hh y1 y2 y3 hRS.hsn) (cwV 3 hts gL_law_X7_made rfl rfl rfl (by decide +kernel) ⟨(Nat.le_of_ble_eq_true rfl), (Nat.le_of_ble_eq_true rfl)⟩) (wr_preV (va_P_r hP) (va_D_r hD) hKi rfl (q0 := 0) rfl) rfl rfl hl.1 rfl (lv_room (Nat.le_of_ble_eq_true rfl)) dL_law_320 ⟨(Nat.le_of_ble_eq_true rfl), (Nat.le_of_ble_eq_true rfl)⟩) hP hD hS hA [hm, a0, a1, a3, a5, a6, a8, a12] rfl rfl (fun H locs hP hD hS => ?_)
  have he := e_made hRS cp y1 y2 y3
  refine lv_icmp_eq (tgt := 1234) hx hb dL_law_323 (by decide) (fun _ => ?_) (fun q => absurd he.1 q)
  exact kk H locs ⟨sa, sg, tg, ((fX6_made tr ln y1 y2 y3).2.1), ((fX6_made tr ln y1 y2 y3).2.2), fo, ft, fl, fn, ro, tp, tq, per, rea, rn, wo, tn, td, rw, wn, od, sr, a0, a1, a3, a5, a6, a8, a12, ((fX7_made sn tu cp y1 y2 y3).2.1), ((fX7_made sn tu cp y1 y2 y3).2.2.1), fm, we, rm, pm, ra, wm, rv, bs, re, ot, ((fX7_made sn tu cp y1 y2 y3).2.2.2), ab, be, hh, ⟨hP, hD, hS⟩, he.2, hRF, hRR, hRW, hsb, hb30⟩
set_option maxHeartbeats 4000000 in
set_option maxRecDepth 100000 in
theorem lw_c4 {p : Program} {l : Launch} {e : Env} {s : State} {m : MethodId} {below : List Frame} {meth : Method} {c : Code} {b L : Nat} {xs : Nat → Int32} (C0 : lw_At p s m meth c b L xs) {D : va_G} {cI cS : ClassId} (hK : kI D [(cI, .int), (cS, .object RX5)] s) {i h hm : Nat} {H : Heap} {locs : List Loc} {ls : Array Slot} (S : LWS D cI cS (fun q : Nat => s.heap.size ≤ q) s.heap h hm H locs) (hl : lv_has ls 4 [(0, .ref b), (1, .ref h), (2, .ref hm), (3, .int (nI i))]) (h1 : vp_in (nI i + 1) L) (h2 : vp_in (nI i + 2) L) (h3 : vp_in (nI i + 3) L) (h4 : vp_in (nI i + 4) L) (h5 : vp_in (nI i + 5) L) (kk : ∀ (H : Heap) (locs : List Loc), LWS D cI cS (fun q : Nat => s.heap.size ≤ q) s.heap h hm H locs → W p l e room_1 s m #[Value.ref b] below meth c H locs 600000 7302250 (lw_Z below #[Value.ref b] s) (F0 m 1234 ls [])) : W p l e room_1 s m #[Value.ref b] below meth c H locs 600000 7302250 (lw_Z below #[Value.ref b] s) (F0 m 328 ls []) := by
  obtain ⟨hx, hb, hr, hml, hown, hts, hX, hbl, hlocks, hgv⟩ := C0
  have hts := fun w h => hts w (wsL_law_in w h)
  have hown : s.vm.findClass RL = some m.cls := hown
  have hA : ∀ q : Nat, s.heap.size ≤ q → (fun q : Nat => s.heap.size ≤ q) q := fun _ h => h
  have hbA : ¬ (fun q : Nat => s.heap.size ≤ q) b := Nat.not_le.mpr hbl
  have hKi := hK.sub [0] (tys' := [(cI, .int)]) rfl
  obtain ⟨sa, sg, tg, tr, ln, fo, ft, fl, fn, ro, tp, tq, per, rea, rn, wo, tn, td, rw, wn, od, sr, a0, a1, a3, a5, a6, a8, a12, sn, tu, fm, we, rm, pm, ra, wm, rv, bs, re, ot, cp, ab, be, hh, ⟨hP, hD, hS⟩, hRS, hRF, hRR, hRW, hsb, hb30⟩ := S
  obtain ⟨y1, hy1⟩ : ∃ y : Int32, y = xs (nI i + 1).toNatClampNeg := ⟨_, rfl⟩
  obtain ⟨y2, hy2⟩ : ∃ y : Int32, y = xs (nI i + 2).toNatClampNeg := ⟨_, rfl⟩
  obtain ⟨y3, hy3⟩ : ∃ y : Int32, y = xs (nI i + 3).toNatClampNeg := ⟨_, rfl⟩
  obtain ⟨y4, hy4⟩ : ∃ y : Int32, y = xs (nI i + 4).toNatClampNeg := ⟨_, rfl⟩
  obtain ⟨y5, hy5⟩ : ∃ y : Int32, y = xs (nI i + 5).toNatClampNeg := ⟨_, rfl⟩
  refine lv_aload_n hx hb dL_law_328 rfl (lv_at hl 1 rfl) ?_
  refine lv_aload_n hx hb dL_law_329 rfl (lv_at hl 0 rfl) ?_
  refine lv_iload_n hx hb dL_law_330 rfl (lv_at hl 3 rfl) ?_
  refine lv_iconst (v := 1) hx hb dL_law_331 (by decide) ?_
  refine lv_iadd hx hb dL_law_332 ?_
  refine va_sld hx hb hX hbl hbA hS h1 dL_law_333 ?_
  rw [← hy1]
  refine lv_aload_n hx hb dL_law_334 rfl (lv_at hl 0 rfl) ?_
  refine lv_iload_n hx hb dL_law_335 rfl (lv_at hl 3 rfl) ?_
  refine lv_iconst (v := 2) hx hb dL_law_336 (by decide) ?_
  refine lv_iadd hx hb dL_law_337 ?_
  refine va_sld hx hb hX hbl hbA hS h2 dL_law_338 ?_
  rw [← hy2]
  refine lv_aload_n hx hb dL_law_339 rfl (lv_at hl 0 rfl) ?_
  refine lv_iload_n hx hb dL_law_340 rfl (lv_at hl 3 rfl) ?_
  refine lv_iconst (v := 3) hx hb dL_law_341 (by decide) ?_
  refine lv_iadd hx hb dL_law_342 ?_
  refine va_sld hx hb hX hbl hbA hS h3 dL_law_343 ?_
  rw [← hy3]
  refine lv_aload_n hx hb dL_law_344 rfl (lv_at hl 0 rfl) ?_
  refine lv_iload_n hx hb dL_law_345 rfl (lv_at hl 3 rfl) ?_
  refine lv_iconst (v := 4) hx hb dL_law_346 (by decide) ?_
  refine lv_iadd hx hb dL_law_347 ?_
  refine va_sld hx hb hX hbl hbA hS h4 dL_law_348 ?_
  rw [← hy4]
  refine lv_aload_n hx hb dL_law_349 rfl (lv_at hl 0 rfl) ?_
  refine lv_iload_n hx hb dL_law_350 rfl (lv_at hl 3 rfl) ?_
  refine lv_iconst (v := 5) hx hb dL_law_351 (by decide) ?_
  refine lv_iadd hx hb dL_law_352 ?_
  refine va_sld hx hb hX hbl hbA hS h5 dL_law_353 ?_
  rw [← hy5]
  refine cs_i (va_runV (As := [.int y1, .int y2, .int y3, .int y4, .int y5]) (rest := []) ⟨hx, hb, hml, hown, hts⟩ (c_X6_look l D cI cS h sa sg tg tr ln fo ft fl fn ro tp tq per rea rn wo tn td rw wn od sr y1 y2 y3 y4 y5 hRS.hln) (cwV 5 hts gL_law_X6_look rfl rfl rfl (by decide +kernel) ⟨(Nat.le_of_ble_eq_true rfl), (Nat.le_of_ble_eq_true rfl)⟩) (ro_preV (va_P_l hP) hK rfl (q0 := 0) rfl) rfl rfl hl.1 rfl (lv_room (Nat.le_of_ble_eq_true rfl)) dL_law_354 ⟨(Nat.le_of_ble_eq_true rfl), (Nat.le_of_ble_eq_true rfl)⟩) ?_
  refine lv_aload_n hx hb dL_law_357 rfl (lv_at hl 2 rfl) ?_
  refine lv_aload_n hx hb dL_law_358 rfl (lv_at hl 0 rfl) ?_
  refine lv_iload_n hx hb dL_law_359 rfl (lv_at hl 3 rfl) ?_
  refine lv_iconst (v := 1) hx hb dL_law_360 (by decide) ?_
  refine lv_iadd hx hb dL_law_361 ?_
  refine va_sld hx hb hX hbl hbA hS h1 dL_law_362 ?_
  rw [← hy1]
  refine lv_aload_n hx hb dL_law_363 rfl (lv_at hl 0 rfl) ?_
  refine lv_iload_n hx hb dL_law_364 rfl (lv_at hl 3 rfl) ?_
  refine lv_iconst (v := 2) hx hb dL_law_365 (by decide) ?_
  refine lv_iadd hx hb dL_law_366 ?_
  refine va_sld hx hb hX hbl hbA hS h2 dL_law_367 ?_
  rw [← hy2]
  refine lv_aload_n hx hb dL_law_368 rfl (lv_at hl 0 rfl) ?_
  refine lv_iload_n hx hb dL_law_369 rfl (lv_at hl 3 rfl) ?_
  refine lv_iconst (v := 3) hx hb dL_law_370 (by decide) ?_
  refine lv_iadd hx hb dL_law_371 ?_
  refine va_sld hx hb hX hbl hbA hS h3 dL_law_372 ?_
  rw [← hy3]
  refine lv_aload_n hx hb dL_law_373 rfl (lv_at hl 0 rfl) ?_
  refine lv_iload_n hx hb dL_law_374 rfl (lv_at hl 3 rfl) ?_
  refine lv_iconst (v := 4) hx hb dL_law_375 (by decide) ?_
  refine lv_iadd hx hb dL_law_376 ?_
  refine va_sld hx hb hX hbl hbA hS h4 dL_law_377 ?_
  rw [← hy4]
  refine lv_aload_n hx hb dL_law_378 rfl (lv_at hl 0 rfl) ?_
  refine lv_iload_n hx hb dL_law_379 rfl (lv_at hl 3 rfl) ?_
  refine lv_iconst (v := 5) hx hb dL_law_380 (by decide) ?_
  refine lv_iadd hx hb dL_law_381 ?_
  refine va_sld hx hb hX hbl hbA hS h5 dL_law_382 ?_
  rw [← hy5]
  refine cr_i (va_runV (As := [.int y1, .int y2, .int y3, .int y4, .int y5]) (rest := [.int (fX6_look tr ln y1 y2 y3 y4 y5)]) ⟨hx, hb, hml, hown, hts⟩ (c_X7_look l D cI H.size hm a0 a1 a3 a5 a6 a8 a12 sn tu fm we rm pm ra wm rv bs re ot cp ab be hh y1 y2 y3 y4 y5 hRS.hsn) (cwV 5 hts gL_law_X7_look rfl rfl rfl (by decide +kernel) ⟨(Nat.le_of_ble_eq_true rfl), (Nat.le_of_ble_eq_true rfl)⟩) (wr_preV (va_P_r hP) (va_D_r hD) hKi rfl (q0 := 0) rfl) rfl rfl hl.1 rfl (lv_room (Nat.le_of_ble_eq_true rfl)) dL_law_383 ⟨(Nat.le_of_ble_eq_true rfl), (Nat.le_of_ble_eq_true rfl)⟩) hP hD hS hA [hm, a0, a1, a3, a5, a6, a8, a12] rfl rfl (fun H locs hP hD hS => ?_)
  have he := e_look hRS re ot y1 y2 y3 y4 y5
  refine lv_icmp_eq (tgt := 1234) hx hb dL_law_386 (by decide) (fun _ => ?_) (fun q => absurd he q)
  exact kk H locs ⟨sa, sg, tg, tr, ln, fo, ft, fl, fn, ro, tp, tq, per, rea, rn, wo, tn, td, rw, wn, od, sr, a0, a1, a3, a5, a6, a8, a12, sn, tu, fm, we, rm, pm, ra, wm, rv, bs, ((fX7_look sn tu re ot y1 y2 y3 y4 y5).2.1), ((fX7_look sn tu re ot y1 y2 y3 y4 y5).2.2), cp, ab, be, hh, ⟨hP, hD, hS⟩, hRS, hRF, hRR, hRW, hsb, hb30⟩
set_option maxHeartbeats 4000000 in
set_option maxRecDepth 100000 in
theorem lw_c5 {p : Program} {l : Launch} {e : Env} {s : State} {m : MethodId} {below : List Frame} {meth : Method} {c : Code} {b L : Nat} {xs : Nat → Int32} (C0 : lw_At p s m meth c b L xs) {D : va_G} {cI cS : ClassId} (hK : kI D [(cI, .int), (cS, .object RX5)] s) {i h hm : Nat} {H : Heap} {locs : List Loc} {ls : Array Slot} (S : LWS D cI cS (fun q : Nat => s.heap.size ≤ q) s.heap h hm H locs) (hl : lv_has ls 4 [(0, .ref b), (1, .ref h), (2, .ref hm), (3, .int (nI i))]) (h1 : vp_in (nI i + 1) L) (kk : ∀ (H : Heap) (locs : List Loc), LWS D cI cS (fun q : Nat => s.heap.size ≤ q) s.heap h hm H locs → W p l e room_1 s m #[Value.ref b] below meth c H locs 600000 7302250 (lw_Z below #[Value.ref b] s) (F0 m 1234 ls [])) : W p l e room_1 s m #[Value.ref b] below meth c H locs 600000 7302250 (lw_Z below #[Value.ref b] s) (F0 m 391 ls []) := by
  obtain ⟨hx, hb, hr, hml, hown, hts, hX, hbl, hlocks, hgv⟩ := C0
  have hts := fun w h => hts w (wsL_law_in w h)
  have hown : s.vm.findClass RL = some m.cls := hown
  have hA : ∀ q : Nat, s.heap.size ≤ q → (fun q : Nat => s.heap.size ≤ q) q := fun _ h => h
  have hbA : ¬ (fun q : Nat => s.heap.size ≤ q) b := Nat.not_le.mpr hbl
  have hKi := hK.sub [0] (tys' := [(cI, .int)]) rfl
  obtain ⟨sa, sg, tg, tr, ln, fo, ft, fl, fn, ro, tp, tq, per, rea, rn, wo, tn, td, rw, wn, od, sr, a0, a1, a3, a5, a6, a8, a12, sn, tu, fm, we, rm, pm, ra, wm, rv, bs, re, ot, cp, ab, be, hh, ⟨hP, hD, hS⟩, hRS, hRF, hRR, hRW, hsb, hb30⟩ := S
  obtain ⟨y1, hy1⟩ : ∃ y : Int32, y = xs (nI i + 1).toNatClampNeg := ⟨_, rfl⟩
  refine lv_aload_n hx hb dL_law_391 rfl (lv_at hl 1 rfl) ?_
  refine lv_aload_n hx hb dL_law_392 rfl (lv_at hl 0 rfl) ?_
  refine lv_iload_n hx hb dL_law_393 rfl (lv_at hl 3 rfl) ?_
  refine lv_iconst (v := 1) hx hb dL_law_394 (by decide) ?_
  refine lv_iadd hx hb dL_law_395 ?_
  refine va_sld hx hb hX hbl hbA hS h1 dL_law_396 ?_
  rw [← hy1]
  refine cs_i (va_runV (As := [.int y1]) (rest := []) ⟨hx, hb, hml, hown, hts⟩ (c_X6_peak l D cI cS h sa sg tg tr ln fo ft fl fn ro tp tq per rea rn wo tn td rw wn od sr y1 hRS.hln) (cwV 1 hts gL_law_X6_peak rfl rfl rfl (by decide +kernel) ⟨(Nat.le_of_ble_eq_true rfl), (Nat.le_of_ble_eq_true rfl)⟩) (ro_preV (va_P_l hP) hK rfl (q0 := 0) rfl) rfl rfl hl.1 rfl (lv_room (Nat.le_of_ble_eq_true rfl)) dL_law_397 ⟨(Nat.le_of_ble_eq_true rfl), (Nat.le_of_ble_eq_true rfl)⟩) ?_
  refine lv_aload_n hx hb dL_law_400 rfl (lv_at hl 2 rfl) ?_
  refine lv_aload_n hx hb dL_law_401 rfl (lv_at hl 0 rfl) ?_
  refine lv_iload_n hx hb dL_law_402 rfl (lv_at hl 3 rfl) ?_
  refine lv_iconst (v := 1) hx hb dL_law_403 (by decide) ?_
  refine lv_iadd hx hb dL_law_404 ?_
  refine va_sld hx hb hX hbl hbA hS h1 dL_law_405 ?_
  rw [← hy1]
  refine cr_i (va_runV (As := [.int y1]) (rest := [.int (fX6_peak tr ln y1)]) ⟨hx, hb, hml, hown, hts⟩ (c_X7_peak l D cI H.size hm a0 a1 a3 a5 a6 a8 a12 sn tu fm we rm pm ra wm rv bs re ot cp ab be hh y1 hRS.hsn) (cwV 1 hts gL_law_X7_peak rfl rfl rfl (by decide +kernel) ⟨(Nat.le_of_ble_eq_true rfl), (Nat.le_of_ble_eq_true rfl)⟩) (wr_preV (va_P_r hP) (va_D_r hD) hKi rfl (q0 := 0) rfl) rfl rfl hl.1 rfl (lv_room (Nat.le_of_ble_eq_true rfl)) dL_law_406 ⟨(Nat.le_of_ble_eq_true rfl), (Nat.le_of_ble_eq_true rfl)⟩) hP hD hS hA [hm, a0, a1, a3, a5, a6, a8, a12] rfl rfl (fun H locs hP hD hS => ?_)
  have he := e_peak hRS re ot y1
  refine lv_icmp_eq (tgt := 1234) hx hb dL_law_409 (by decide) (fun _ => ?_) (fun q => absurd he q)
  exact kk H locs ⟨sa, sg, tg, tr, ln, fo, ft, fl, fn, ro, tp, tq, per, rea, rn, wo, tn, td, rw, wn, od, sr, a0, a1, a3, a5, a6, a8, a12, sn, tu, fm, we, rm, pm, ra, wm, rv, bs, ((fX7_peak sn tu re ot y1).2.1), ((fX7_peak sn tu re ot y1).2.2), cp, ab, be, hh, ⟨hP, hD, hS⟩, hRS, hRF, hRR, hRW, hsb, hb30⟩
set_option maxHeartbeats 4000000 in
set_option maxRecDepth 100000 in
theorem lw_c6 {p : Program} {l : Launch} {e : Env} {s : State} {m : MethodId} {below : List Frame} {meth : Method} {c : Code} {b L : Nat} {xs : Nat → Int32} (C0 : lw_At p s m meth c b L xs) {D : va_G} {cI cS : ClassId} (hK : kI D [(cI, .int), (cS, .object RX5)] s) {i h hm : Nat} {H : Heap} {locs : List Loc} {ls : Array Slot} (S : LWS D cI cS (fun q : Nat => s.heap.size ≤ q) s.heap h hm H locs) (hl : lv_has ls 4 [(0, .ref b), (1, .ref h), (2, .ref hm), (3, .int (nI i))]) (h1 : vp_in (nI i + 1) L) (kk : ∀ (H : Heap) (locs : List Loc), LWS D cI cS (fun q : Nat => s.heap.size ≤ q) s.heap h hm H locs → W p l e room_1 s m #[Value.ref b] below meth c H locs 600000 7302250 (lw_Z below #[Value.ref b] s) (F0 m 1234 ls [])) : W p l e room_1 s m #[Value.ref b] below meth c H locs 600000 7302250 (lw_Z below #[Value.ref b] s) (F0 m 414 ls []) := by
  obtain ⟨hx, hb, hr, hml, hown, hts, hX, hbl, hlocks, hgv⟩ := C0
  have hts := fun w h => hts w (wsL_law_in w h)
  have hown : s.vm.findClass RL = some m.cls := hown
  have hA : ∀ q : Nat, s.heap.size ≤ q → (fun q : Nat => s.heap.size ≤ q) q := fun _ h => h
  have hbA : ¬ (fun q : Nat => s.heap.size ≤ q) b := Nat.not_le.mpr hbl
  have hKi := hK.sub [0] (tys' := [(cI, .int)]) rfl
  obtain ⟨sa, sg, tg, tr, ln, fo, ft, fl, fn, ro, tp, tq, per, rea, rn, wo, tn, td, rw, wn, od, sr, a0, a1, a3, a5, a6, a8, a12, sn, tu, fm, we, rm, pm, ra, wm, rv, bs, re, ot, cp, ab, be, hh, ⟨hP, hD, hS⟩, hRS, hRF, hRR, hRW, hsb, hb30⟩ := S
  obtain ⟨y1, hy1⟩ : ∃ y : Int32, y = xs (nI i + 1).toNatClampNeg := ⟨_, rfl⟩
  refine lv_aload_n hx hb dL_law_414 rfl (lv_at hl 1 rfl) ?_
  refine lv_aload_n hx hb dL_law_415 rfl (lv_at hl 0 rfl) ?_
  refine lv_iload_n hx hb dL_law_416 rfl (lv_at hl 3 rfl) ?_
  refine lv_iconst (v := 1) hx hb dL_law_417 (by decide) ?_
  refine lv_iadd hx hb dL_law_418 ?_
  refine va_sld hx hb hX hbl hbA hS h1 dL_law_419 ?_
  rw [← hy1]
  refine cs_i (va_runV (As := [.int y1]) (rest := []) ⟨hx, hb, hml, hown, hts⟩ (c_X6_flank l D cI cS h sa sg tg tr ln fo ft fl fn ro tp tq per rea rn wo tn td rw wn od sr y1 hRS.hln) (cwV 1 hts gL_law_X6_flank rfl rfl rfl (by decide +kernel) ⟨(Nat.le_of_ble_eq_true rfl), (Nat.le_of_ble_eq_true rfl)⟩) (ro_preV (va_P_l hP) hK rfl (q0 := 0) rfl) rfl rfl hl.1 rfl (lv_room (Nat.le_of_ble_eq_true rfl)) dL_law_420 ⟨(Nat.le_of_ble_eq_true rfl), (Nat.le_of_ble_eq_true rfl)⟩) ?_
  refine lv_aload_n hx hb dL_law_423 rfl (lv_at hl 2 rfl) ?_
  refine lv_aload_n hx hb dL_law_424 rfl (lv_at hl 0 rfl) ?_
  refine lv_iload_n hx hb dL_law_425 rfl (lv_at hl 3 rfl) ?_
  refine lv_iconst (v := 1) hx hb dL_law_426 (by decide) ?_
  refine lv_iadd hx hb dL_law_427 ?_
  refine va_sld hx hb hX hbl hbA hS h1 dL_law_428 ?_
  rw [← hy1]
  refine cr_i (va_runV (As := [.int y1]) (rest := [.int (fX6_flank tr ln y1)]) ⟨hx, hb, hml, hown, hts⟩ (c_X7_flank l D cI H.size hm a0 a1 a3 a5 a6 a8 a12 sn tu fm we rm pm ra wm rv bs re ot cp ab be hh y1 hRS.hsn) (cwV 1 hts gL_law_X7_flank rfl rfl rfl (by decide +kernel) ⟨(Nat.le_of_ble_eq_true rfl), (Nat.le_of_ble_eq_true rfl)⟩) (wr_preV (va_P_r hP) (va_D_r hD) hKi rfl (q0 := 0) rfl) rfl rfl hl.1 rfl (lv_room (Nat.le_of_ble_eq_true rfl)) dL_law_429 ⟨(Nat.le_of_ble_eq_true rfl), (Nat.le_of_ble_eq_true rfl)⟩) hP hD hS hA [hm, a0, a1, a3, a5, a6, a8, a12] rfl rfl (fun H locs hP hD hS => ?_)
  have he := e_flank hRS re ot y1
  refine lv_icmp_eq (tgt := 1234) hx hb dL_law_432 (by decide) (fun _ => ?_) (fun q => absurd he q)
  exact kk H locs ⟨sa, sg, tg, tr, ln, fo, ft, fl, fn, ro, tp, tq, per, rea, rn, wo, tn, td, rw, wn, od, sr, a0, a1, a3, a5, a6, a8, a12, sn, tu, fm, we, rm, pm, ra, wm, rv, bs, ((fX7_flank sn tu re ot y1).2.1), ((fX7_flank sn tu re ot y1).2.2), cp, ab, be, hh, ⟨hP, hD, hS⟩, hRS, hRF, hRR, hRW, hsb, hb30⟩
set_option maxHeartbeats 4000000 in
set_option maxRecDepth 100000 in
theorem lw_c7 {p : Program} {l : Launch} {e : Env} {s : State} {m : MethodId} {below : List Frame} {meth : Method} {c : Code} {b L : Nat} {xs : Nat → Int32} (C0 : lw_At p s m meth c b L xs) {D : va_G} {cI cS : ClassId} (hK : kI D [(cI, .int), (cS, .object RX5)] s) {i h hm : Nat} {H : Heap} {locs : List Loc} {ls : Array Slot} (S : LWS D cI cS (fun q : Nat => s.heap.size ≤ q) s.heap h hm H locs) (hl : lv_has ls 4 [(0, .ref b), (1, .ref h), (2, .ref hm), (3, .int (nI i))]) (h1 : vp_in (nI i + 1) L) (kk : ∀ (H : Heap) (locs : List Loc), LWS D cI cS (fun q : Nat => s.heap.size ≤ q) s.heap h hm H locs → W p l e room_1 s m #[Value.ref b] below meth c H locs 600000 7302250 (lw_Z below #[Value.ref b] s) (F0 m 1234 ls [])) : W p l e room_1 s m #[Value.ref b] below meth c H locs 600000 7302250 (lw_Z below #[Value.ref b] s) (F0 m 437 ls []) := by
  obtain ⟨hx, hb, hr, hml, hown, hts, hX, hbl, hlocks, hgv⟩ := C0
  have hts := fun w h => hts w (wsL_law_in w h)
  have hown : s.vm.findClass RL = some m.cls := hown
  have hA : ∀ q : Nat, s.heap.size ≤ q → (fun q : Nat => s.heap.size ≤ q) q := fun _ h => h
  have hbA : ¬ (fun q : Nat => s.heap.size ≤ q) b := Nat.not_le.mpr hbl
  have hKi := hK.sub [0] (tys' := [(cI, .int)]) rfl
  obtain ⟨sa, sg, tg, tr, ln, fo, ft, fl, fn, ro, tp, tq, per, rea, rn, wo, tn, td, rw, wn, od, sr, a0, a1, a3, a5, a6, a8, a12, sn, tu, fm, we, rm, pm, ra, wm, rv, bs, re, ot, cp, ab, be, hh, ⟨hP, hD, hS⟩, hRS, hRF, hRR, hRW, hsb, hb30⟩ := S
  obtain ⟨y1, hy1⟩ : ∃ y : Int32, y = xs (nI i + 1).toNatClampNeg := ⟨_, rfl⟩
  refine lv_aload_n hx hb dL_law_437 rfl (lv_at hl 1 rfl) ?_
  refine lv_aload_n hx hb dL_law_438 rfl (lv_at hl 0 rfl) ?_
  refine lv_iload_n hx hb dL_law_439 rfl (lv_at hl 3 rfl) ?_
  refine lv_iconst (v := 1) hx hb dL_law_440 (by decide) ?_
  refine lv_iadd hx hb dL_law_441 ?_
  refine va_sld hx hb hX hbl hbA hS h1 dL_law_442 ?_
  rw [← hy1]
  refine cs_i (va_runV (As := [.int y1]) (rest := []) ⟨hx, hb, hml, hown, hts⟩ (c_X6_worst l D cI cS h sa sg tg tr ln fo ft fl fn ro tp tq per rea rn wo tn td rw wn od sr y1 hRS.hln) (cwV 1 hts gL_law_X6_worst rfl rfl rfl (by decide +kernel) ⟨(Nat.le_of_ble_eq_true rfl), (Nat.le_of_ble_eq_true rfl)⟩) (ro_preV (va_P_l hP) hK rfl (q0 := 0) rfl) rfl rfl hl.1 rfl (lv_room (Nat.le_of_ble_eq_true rfl)) dL_law_443 ⟨(Nat.le_of_ble_eq_true rfl), (Nat.le_of_ble_eq_true rfl)⟩) ?_
  refine lv_aload_n hx hb dL_law_446 rfl (lv_at hl 2 rfl) ?_
  refine lv_aload_n hx hb dL_law_447 rfl (lv_at hl 0 rfl) ?_
  refine lv_iload_n hx hb dL_law_448 rfl (lv_at hl 3 rfl) ?_
  refine lv_iconst (v := 1) hx hb dL_law_449 (by decide) ?_
  refine lv_iadd hx hb dL_law_450 ?_
  refine va_sld hx hb hX hbl hbA hS h1 dL_law_451 ?_
  rw [← hy1]
  refine cr_i (va_runV (As := [.int y1]) (rest := [.int (fX6_worst tr ln y1)]) ⟨hx, hb, hml, hown, hts⟩ (c_X7_worst l D cI H.size hm a0 a1 a3 a5 a6 a8 a12 sn tu fm we rm pm ra wm rv bs re ot cp ab be hh y1 hRS.hsn) (cwV 1 hts gL_law_X7_worst rfl rfl rfl (by decide +kernel) ⟨(Nat.le_of_ble_eq_true rfl), (Nat.le_of_ble_eq_true rfl)⟩) (wr_preV (va_P_r hP) (va_D_r hD) hKi rfl (q0 := 0) rfl) rfl rfl hl.1 rfl (lv_room (Nat.le_of_ble_eq_true rfl)) dL_law_452 ⟨(Nat.le_of_ble_eq_true rfl), (Nat.le_of_ble_eq_true rfl)⟩) hP hD hS hA [hm, a0, a1, a3, a5, a6, a8, a12] rfl rfl (fun H locs hP hD hS => ?_)
  have he := e_worst hRS re ot y1
  refine lv_icmp_eq (tgt := 1234) hx hb dL_law_455 (by decide) (fun _ => ?_) (fun q => absurd he q)
  exact kk H locs ⟨sa, sg, tg, tr, ln, fo, ft, fl, fn, ro, tp, tq, per, rea, rn, wo, tn, td, rw, wn, od, sr, a0, a1, a3, a5, a6, a8, a12, sn, tu, fm, we, rm, pm, ra, wm, rv, bs, ((fX7_worst sn tu re ot y1).2.1), ((fX7_worst sn tu re ot y1).2.2), cp, ab, be, hh, ⟨hP, hD, hS⟩, hRS, hRF, hRR, hRW, hsb, hb30⟩
