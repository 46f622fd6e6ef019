theorem wr_preA {As : List Value} {D : va_G} {tys : List (ClassId × FieldType)} {ws : va_W} {A : Nat → Prop} {s : State} {H : Heap} (hP : va_P D vwCl ws H) (hD : va_D A ws) (hK : kI D tys s) (hAO : va_AO RX5 s) : PreS s H (va_Pc As (fun U => wrP D tys ws H.size U ∧ va_AO RX5 U)) As :=
  ⟨fun a U g mk h => ⟨h.1, ⟨h.2.1.1, h.2.1.2.1, h.2.1.2.2.1.call, h.2.1.2.2.2⟩, va_AO.moved (u := U) (U := U.calling g mk a) (Vm.Alike.refl U.vm) h.2.2⟩, fun U hU hW => ⟨rfl, ⟨by rw [hU], by rw [hU]; exact hP, hK.warm hW, hD.weaken (fun _ _ _ _ => trivial)⟩, va_AO.moved hW.alike hAO⟩⟩
def sn0 : Nat → Nat := fun i => if i < 6 then 1 else 0
theorem row6 : upd (upd (upd (upd (upd (upd (fun _ => (0 : Int32)) 0 1) 1 1) 2 1) 3 1) 4 1) 5 1 = fun i => nI (sn0 i) := by
  funext i
  unfold upd sn0
  by_cases h : i < 6
  · rw [if_pos h]
    rcases (show i = 0 ∨ i = 1 ∨ i = 2 ∨ i = 3 ∨ i = 4 ∨ i = 5 by omega) with rfl | rfl | rfl | rfl | rfl | rfl <;> rfl
  · rw [if_neg h, if_neg (by omega), if_neg (by omega), if_neg (by omega), if_neg (by omega), if_neg (by omega), if_neg (by omega)]
    rfl
theorem row2 : upd (fun _ => (0 : Int32)) 0 2 = fun i => nI (updN (fun _ => 0) 0 2 i) := updN_rowv (f := fun _ => 0) (k := 0) (x := 2) (v := 2) rfl
theorem RS_0 : RS (fun _ _ => 0) (fun _ => 1) sn0 (fun _ => 0) := by
  refine ⟨fun c hc => ⟨?_, by show 1 ≤ 1; omega, by show 1 ≤ 16; omega⟩, fun _ _ _ _ => rfl, fun _ _ _ _ => ⟨0, by omega, rfl⟩⟩
  unfold sn0
  rw [if_pos hc]
theorem RF_0 : RF (upd (fun _ => 0) 0 1) 1 (upd (fun _ => 0) 0 1) 1 := ⟨rfl, ⟨by omega, by omega⟩, fun _ _ => rfl⟩
theorem RR_0 : RR (fX2_reset (fun _ => 0) (fun _ => 0) 1).2.1 (fX2_reset (fun _ => 0) (fun _ => 0) 1).2.2 (fX2_reset (fun _ => 0) (fun _ => 0) 1).1 (updN (fun _ => 0) 0 2) (upd (fun _ => 0) 0 (-1)) 1 := by
  unfold fX2_reset
  rw [F_reset2]
  refine ⟨rfl, ⟨by show 1 ≤ 1; omega, by show 1 ≤ 4; omega⟩, fun i hi => ?_, fun i hi => ?_, fun i hi => ?_⟩
  · have hi : i < 1 := hi
    have : i = 0 := by omega
    subst this
    exact ⟨rfl, rfl⟩
  · have hi : i < 1 := hi
    have : i = 0 := by omega
    subst this
    unfold updN
    rw [if_pos rfl]
    omega
  · refine ⟨2, by omega, by omega, ?_⟩
    show fil (fun _ => 0) 0 (4 - 0) 2 i = nI 2
    rw [fil_in (by omega) (by omega)]
    rfl
theorem RW_0 : RW (fun _ => 0) 0 (fun _ => 0) 0 := ⟨rfl, by omega, fun x hx => absurd hx (by omega)⟩
set_option maxHeartbeats 4000000 in
set_option maxRecDepth 100000 in
theorem start_K {s : State} {b : Nat} (hts : ∀ w ∈ lw_tbl, w.before #[Value.ref b] s = true) : ∃ (D : va_G) (cI cS : ClassId), kI D [(cI, .int), (cS, .object RX5)] s ∧ va_AO RX5 s := by
  obtain ⟨c0, i0, k0⟩ := u_known (C := RX1) (T := TX1) (N := 2) (n := 2) hts inX1 (hts (.instantiable RX1 2) (by decide +kernel))
  obtain ⟨c1, i1, k1⟩ := u_known (C := RX2) (T := TX2) (N := 3) (n := 3) hts inX2 (hts (.instantiable RX2 3) (by decide +kernel))
  obtain ⟨c2, i2, k2⟩ := u_known (C := RX3) (T := TX3) (N := 3) (n := 3) hts inX3 (hts (.instantiable RX3 3) (by decide +kernel))
  obtain ⟨c3, i3, k3⟩ := u_known (C := RX5) (T := TX5) (N := 2) (n := 2) hts inX5 (hts (.instantiable RX5 2) (by decide +kernel))
  obtain ⟨c4, i4, k4⟩ := u_known (C := RX6) (T := TX6) (N := 5) (n := 5) hts inX6 (hts (.instantiable RX6 5) (by decide +kernel))
  obtain ⟨c5, i5, k5⟩ := u_known (C := RX7) (T := TX7) (N := 16) (n := 16) hts inX7 (hts (.instantiable RX7 16) (by decide +kernel))
  obtain ⟨dC, dI, hKc⟩ : ∃ (dC : Nat → ClassId) (dI : Nat → Nat → Nat), ∀ (k : Nat) (q : vw_C), vwCl[k]? = some q → u_Kn s q.1 q.2.1 q.2.2 (dC k) (dI k) := by
    refine ⟨fun k => if k = 0 then c0 else if k = 1 then c1 else if k = 2 then c2 else if k = 3 then c3 else if k = 4 then c4 else c5, fun k => if k = 0 then i0 else if k = 1 then i1 else if k = 2 then i2 else if k = 3 then i3 else if k = 4 then i4 else i5, ?_⟩
    intro k q hq
    match k, hq with
    | 0, hq => cases hq; exact k0
    | 1, hq => cases hq; exact k1
    | 2, hq => cases hq; exact k2
    | 3, hq => cases hq; exact k3
    | 4, hq => cases hq; exact k4
    | 5, hq => cases hq; exact k5
    | k + 6, hq => simp [vwCl] at hq
  obtain ⟨cI, kA, comp, f1, f2, f3⟩ := Cond.arrayClass_spec (hts (.arrayClass .int) (by decide +kernel))
  have hao := hts (.arrayOver (.object RX5)) (by decide +kernel)
  obtain ⟨compS, cS, kS, g1, g2, g3, g4, g5⟩ := Cond.arrayOver_spec hao
  refine ⟨(dC, dI), cI, cS, ⟨⟨hKc, fun k q h => ?_⟩, ?_⟩, va_AO.of hao⟩
  · match k, h with
    | 0, h => cases h; exact ⟨fun N z => ⟨(fun k h => by cases h), kA, f2, comp, f3⟩, f1⟩
    | 1, h => cases h; exact ⟨fun N z => ⟨(fun k h => by cases h), kS, g3, compS, g4⟩, kS, compS, g3, g4, g1, g5⟩
    | k + 2, h => simp at h
  · exact ⟨va_Nw.of rfl (hts (.methodLinkNest RX6 31 yX3_init RX6) (by decide +kernel)), va_Nw.of rfl (hts (.methodLinkNest RX6 40 yX5_init RX6) (by decide +kernel)), va_Nw.of rfl (hts (.methodLinkNest RX5 17 yX6_within RX6) (by decide +kernel)), va_Nw.of rfl (hts (.methodLinkNest RX5 27 yX6_partOfTurn RX6) (by decide +kernel)), va_Nw.of rfl (hts (.methodLinkNest RX1 23 yX6_partOfTurn RX6) (by decide +kernel)), va_Nw.of rfl (hts (.methodLinkNest RX2 22 yX6_within RX6) (by decide +kernel)), va_Nw.of rfl (hts (.methodLinkNest RX2 49 yX6_commonDivisor RX6) (by decide +kernel)), va_Nw.of rfl (hts (.methodLinkNest RX3 20 yX6_within RX6) (by decide +kernel)), va_Nw.of rfl (hts (.methodLinkNest RX0 11 yX6_within RX6) (by decide +kernel))⟩
set_option maxHeartbeats 4000000 in
set_option maxRecDepth 100000 in
/-- THE LAW, from its entry -/
theorem whole_start {p : Program} {e : Env} {s : State} {m : MethodId} {below : List Frame} {meth : Method} {c : Code} (l : Launch) {b L : Nat} {xs : Nat → Int32} (hL : L ≤ 3072) (C0 : lw_At p s m meth c b L xs) : W p l e room_1 s m #[Value.ref b] below meth c s.heap [] 0 0 (lw_Z below #[Value.ref b] s) (entryFrame m ([Value.ref b] : List Value).toArray 4) := by
  obtain ⟨hx, hb, hr, hml, hown0, hts, hX, hbl, hlocks, hgv⟩ := id C0
  have hown : s.vm.findClass RL = some m.cls := hown0
  have htsL := fun w h => hts w (wsL_law_in w h)
  have hA : ∀ q : Nat, s.heap.size ≤ q → (fun q : Nat => s.heap.size ≤ q) q := fun _ h => h
  obtain ⟨D, cI, cS, hK, hAO⟩ := start_K hts
  have hKi := hK.sub [0] (tys' := [(cI, .int)]) rfl
  have hS : va_S (fun q : Nat => s.heap.size ≤ q) s.heap s.heap [] := va_S.rf
  have hP : va_P D vwCl [] s.heap := fun k q h => by simp at h
  have hD : va_D (fun q : Nat => s.heap.size ≤ q) [] := ⟨fun i j p q h => by simp at h, fun k q h => by simp at h⟩
  have hl := lv_entry ([.ref b]) (n := 4) (Nat.le_of_ble_eq_true rfl)
  rw [lg_entry_eq]
  generalize (lg_sl ([.ref b]) ++ List.replicate (4 - (lg_sl ([.ref b])).length) Slot.unset).toArray = ls at hl ⊢
  have hl : lv_has ls 4 [(0, .ref b)] := hl
  refine va_new (ci := 4) (fs := [.null, .null, .null, .null, .int 0]) (C := RX6) (T := TX6) (N := 5) hx hb hts inX6 tyX6 tyX6_ok hown (hts (.classLink RL 7 RX6) (by decide +kernel)) (hts (.instantiable RX6 5) (by decide +kernel)) (hts (.initialized RX6) (by decide +kernel)) hK.1 hP hD hS hA rfl (fun j hj => by rcases (show j = 0 ∨ j = 1 ∨ j = 2 ∨ j = 3 ∨ j = 4 by omega) with rfl | rfl | rfl | rfl | rfl <;> rfl) (Nat.le_of_ble_eq_true rfl) (Nat.le_of_ble_eq_true rfl) dL_law_0 (fun h H hP hD hS => ?_)
  have hP : va_P D vwCl [(h, .inr (4, [.null, .null, .null, .null, .int 0]))] H := hP
  have hD : va_D (fun q : Nat => s.heap.size ≤ q) [(h, .inr (4, [.null, .null, .null, .null, .int 0]))] := hD
  refine W.widen (k := 1) (n := 5) (by omega) (by omega) ?_
  refine lv_dup hx hb dL_law_3 rfl ?_
  have hFc := va_free (wc := [(h, .inr (4, [.null, .null, .null, .null, .int 0]))]) hD hS hA [0] rfl
  refine va_callv (va_runI (As := []) (rest := [.ref h]) ⟨hx, hb, hml, hown, htsL⟩ (c_X6_init l D cI cS H.size h) (cwI 0 htsL gL_law_X6_init rfl rfl rfl (hts (.initialized RX6) (by decide +kernel)) (hts (.methodLink RL 9 yX6_init) (by decide +kernel)) (hts (.instanceMethod yX6_init) (by decide +kernel)) rfl (by decide +kernel) ⟨(Nat.le_of_ble_eq_true rfl), (Nat.le_of_ble_eq_true rfl)⟩) (wr_preA hP hD hK hAO) rfl rfl hl.1 rfl (lv_room (Nat.le_of_ble_eq_true rfl)) dL_law_4 ⟨(Nat.le_of_ble_eq_true rfl), (Nat.le_of_ble_eq_true rfl)⟩) hS (fun q _ h => hFc q h) hFc (fun u t1 H1 locs ht hvm hw hB hz1 hk1 hS => ?_)
  obtain ⟨sa, sg, tg, fo, ft, ro, tp, tq, wo, tn, td, hP1, hD1⟩ := hB
  rw [ht] at hP1
  obtain ⟨hP, hD⟩ := va_join (wr := []) (w1 := PSW cI cS h sa sg tg (fun _ _ => 0) (fun _ => 1) fo ft (upd (fun _ => 0) 0 1) 1 ro tp tq (fX2_reset (fun _ => 0) (fun _ => 0) 1).2.1 (fX2_reset (fun _ => 0) (fun _ => 0) 1).2.2 (fX2_reset (fun _ => 0) (fun _ => 0) 1).1 wo tn td (fun _ => 0) 0 (fun _ => 0) 0) hP hD [0] [] rfl rfl (by decide) (by decide) hk1 hFc hP1 hD1
  generalize H1 = H at hP hS ⊢
  have hP : va_P D vwCl (PSW cI cS h sa sg tg (fun _ _ => 0) (fun _ => 1) fo ft (upd (fun _ => 0) 0 1) 1 ro tp tq (fX2_reset (fun _ => 0) (fun _ => 0) 1).2.1 (fX2_reset (fun _ => 0) (fun _ => 0) 1).2.2 (fX2_reset (fun _ => 0) (fun _ => 0) 1).1 wo tn td (fun _ => 0) 0 (fun _ => 0) 0) H := hP
  have hD : va_D (fun q : Nat => s.heap.size ≤ q) (PSW cI cS h sa sg tg (fun _ _ => 0) (fun _ => 1) fo ft (upd (fun _ => 0) 0 1) 1 ro tp tq (fX2_reset (fun _ => 0) (fun _ => 0) 1).2.1 (fX2_reset (fun _ => 0) (fun _ => 0) 1).2.2 (fX2_reset (fun _ => 0) (fun _ => 0) 1).1 wo tn td (fun _ => 0) 0 (fun _ => 0) 0) := hD
  refine W.widen (k := 22) (n := 239) (by omega) (by omega) ?_
  refine lv_astore_n (lv' := [(1, .ref h), (0, .ref b)]) hx hb dL_law_7 rfl hl (by decide) rfl (fun ls hl => ?_)
  refine va_new (ci := 5) (fs := [.null, .null, .int 0, .null, .int 0, .null, .null, .int 0, .null, .int 0, .int 0, .int 0, .null, .long 0, .long 0, .long 0]) (C := RX7) (T := TX7) (N := 16) hx hb hts inX7 tyX7 tyX7_ok hown (hts (.classLink RL 10 RX7) (by decide +kernel)) (hts (.instantiable RX7 16) (by decide +kernel)) (hts (.initialized RX7) (by decide +kernel)) hK.1 hP hD hS hA rfl (fun j hj => by rcases (show j = 0 ∨ j = 1 ∨ j = 2 ∨ j = 3 ∨ j = 4 ∨ j = 5 ∨ j = 6 ∨ j = 7 ∨ j = 8 ∨ j = 9 ∨ j = 10 ∨ j = 11 ∨ j = 12 ∨ j = 13 ∨ j = 14 ∨ j = 15 by omega) with rfl | rfl | rfl | rfl | rfl | rfl | rfl | rfl | rfl | rfl | rfl | rfl | rfl | rfl | rfl | rfl <;> rfl) (Nat.le_of_ble_eq_true rfl) (Nat.le_of_ble_eq_true rfl) dL_law_8 (fun hm H hP hD hS => ?_)
  refine W.widen (k := 23) (n := 255) (by omega) (by omega) ?_
  refine lv_dup hx hb dL_law_11 rfl ?_
  have hFc := va_free (wc := [(hm, .inr (5, [.null, .null, .int 0, .null, .int 0, .null, .null, .int 0, .null, .int 0, .int 0, .int 0, .null, .long 0, .long 0, .long 0]))]) hD hS hA [22] rfl
  refine va_callv (va_runI (As := []) (rest := [.ref hm]) ⟨hx, hb, hml, hown, htsL⟩ (c_X7_init l D cI H.size hm) (cwI 0 htsL gL_law_X7_init rfl rfl rfl (hts (.initialized RX7) (by decide +kernel)) (hts (.methodLink RL 12 yX7_init) (by decide +kernel)) (hts (.instanceMethod yX7_init) (by decide +kernel)) rfl (by decide +kernel) ⟨(Nat.le_of_ble_eq_true rfl), (Nat.le_of_ble_eq_true rfl)⟩) (wr_pre (va_P_r hP) (va_D_r hD) hKi) rfl rfl hl.1 rfl (lv_room (Nat.le_of_ble_eq_true rfl)) dL_law_12 ⟨(Nat.le_of_ble_eq_true rfl), (Nat.le_of_ble_eq_true rfl)⟩) hS (fun q _ h => hFc q h) hFc (fun u t1 H1 locs ht hvm hw hB hz1 hk1 hS => ?_)
  obtain ⟨a0, a1, a3, a5, a6, a8, a12, hP1, hD1⟩ := hB
  rw [ht] at hP1
  obtain ⟨hP, hD⟩ := va_join (wr := PSW cI cS h sa sg tg (fun _ _ => 0) (fun _ => 1) fo ft (upd (fun _ => 0) 0 1) 1 ro tp tq (fX2_reset (fun _ => 0) (fun _ => 0) 1).2.1 (fX2_reset (fun _ => 0) (fun _ => 0) 1).2.2 (fX2_reset (fun _ => 0) (fun _ => 0) 1).1 wo tn td (fun _ => 0) 0 (fun _ => 0) 0) (w1 := [(hm, .inr (5, [.ref a0, .ref a1, .int 1, .ref a3, .int 1, .ref a5, .ref a6, .int 0, .ref a8, .int 0, .int 0, .int 0, .ref a12, .long 0, .long 0, .long 0])), (a0, .inl (cI, 6, .inl (upd (upd (upd (upd (upd (upd (fun _ => 0) 0 1) 1 1) 2 1) 3 1) 4 1) 5 1))), (a1, .inl (cI, 96, .inl (fun _ => 0))), (a3, .inl (cI, 24, .inl (upd (fun _ => 0) 0 1))), (a5, .inl (cI, 4, .inl (upd (fun _ => 0) 0 2))), (a6, .inl (cI, 4, .inl (upd (fun _ => 0) 0 (-1)))), (a8, .inl (cI, 64, .inl (fun _ => 0))), (a12, .inl (cI, 16, .inl (fun _ => 0)))]) hP hD [22] [0, 1, 2, 3, 4, 5, 6, 7, 8, 9, 10, 11, 12, 13, 14, 15, 16, 17, 18, 19, 20, 21] rfl rfl (by decide) (by decide) hk1 hFc hP1 hD1
  generalize H1 = H at hP hS ⊢
  rw [row6, row2] at hP hD
  refine W.widen (k := 600000) (n := 7302250) (by omega) (by omega) ?_
  refine lv_astore_n (lv' := [(2, .ref hm), (1, .ref h), (0, .ref b)]) hx hb dL_law_15 rfl hl (by decide) rfl (fun ls hl => ?_)
  refine lv_iconst (v := 0) hx hb dL_law_16 (by decide) ?_
  refine lv_istore_n (lv' := [(3, .int 0), (2, .ref hm), (1, .ref h), (0, .ref b)]) hx hb dL_law_17 rfl hl (by decide) rfl (fun ls hl => ?_)
  refine law_loop hL C0 hK (h := h) (hm := hm) (L + 1) 0 H locs ls (by omega) (by omega) ?_ (lv_sub hl [3, 2, 1, 0] rfl)
  exact ⟨sa, sg, tg, fun _ _ => 0, fun _ => 1, fo, ft, upd (fun _ => 0) 0 1, 1, ro, tp, tq, (fX2_reset (fun _ => 0) (fun _ => 0) 1).2.1, (fX2_reset (fun _ => 0) (fun _ => 0) 1).2.2, (fX2_reset (fun _ => 0) (fun _ => 0) 1).1, wo, tn, td, fun _ => 0, 0, fun _ => 0, 0, a0, a1, a3, a5, a6, a8, a12, sn0, fun _ => 0, 1, upd (fun _ => 0) 0 1, 1, updN (fun _ => 0) 0 2, upd (fun _ => 0) 0 (-1), 0, fun _ => 0, 0, 0, 0, fun _ => 0, 0, 0, 0, ⟨hP, hD, hS⟩, RS_0, RF_0, RR_0, RW_0, rfl, by omega⟩
