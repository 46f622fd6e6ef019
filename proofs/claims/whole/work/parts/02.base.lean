/-! The layer between the kit's rows and the walks that a program lays: links of nest mates, contracts that only read, contracts that write their own cells, call rules. -/
def nst (U : State) : Prop :=
  va_Nw (.methodLinkNest RX6 31 yX3_init RX6) U ∧ va_Nw (.methodLinkNest RX6 40 yX5_init RX6) U ∧ va_Nw (.methodLinkNest RX5 17 yX6_within RX6) U ∧ va_Nw (.methodLinkNest RX5 27 yX6_partOfTurn RX6) U ∧ va_Nw (.methodLinkNest RX1 23 yX6_partOfTurn RX6) U ∧ va_Nw (.methodLinkNest RX2 22 yX6_within RX6) U ∧ va_Nw (.methodLinkNest RX2 49 yX6_commonDivisor RX6) U ∧ va_Nw (.methodLinkNest RX3 20 yX6_within RX6) U ∧ va_Nw (.methodLinkNest RX0 11 yX6_within RX6) U
theorem nst.warm {s U : State} (hW : s.WarmedH U.vm) (h : nst s) : nst U :=
  ⟨va_Nw.warmM hW h.1, va_Nw.warmM hW h.2.1, va_Nw.warmM hW h.2.2.1, va_Nw.warmM hW h.2.2.2.1, va_Nw.warmM hW h.2.2.2.2.1, va_Nw.warmM hW h.2.2.2.2.2.1, va_Nw.warmM hW h.2.2.2.2.2.2.1, va_Nw.warmM hW h.2.2.2.2.2.2.2.1, va_Nw.warmM hW h.2.2.2.2.2.2.2.2⟩
theorem nst.call {U : State} {g : JFrame} {mk : MethodId} {a : Array Value} (h : nst U) : nst (U.calling g mk a) :=
  ⟨va_Nw.same rfl rfl h.1, va_Nw.same rfl rfl h.2.1, va_Nw.same rfl rfl h.2.2.1, va_Nw.same rfl rfl h.2.2.2.1, va_Nw.same rfl rfl h.2.2.2.2.1, va_Nw.same rfl rfl h.2.2.2.2.2.1, va_Nw.same rfl rfl h.2.2.2.2.2.2.1, va_Nw.same rfl rfl h.2.2.2.2.2.2.2.1, va_Nw.same rfl rfl h.2.2.2.2.2.2.2.2⟩
/-- what every method knows of the tables: the classes, the array classes, the nest -/
def kI (D : va_G) (tys : List (ClassId × FieldType)) (U : State) : Prop := va_K D vwCl tys U ∧ nst U
theorem kI.warm {D : va_G} {tys : List (ClassId × FieldType)} {s U : State} (hW : s.WarmedH U.vm) (h : kI D tys s) : kI D tys U := ⟨va_K.moved hW.alike h.1, h.2.warm hW⟩
theorem kI.call {D : va_G} {tys : List (ClassId × FieldType)} {U : State} {g : JFrame} {mk : MethodId} {a : Array Value} (h : kI D tys U) : kI D tys (U.calling g mk a) := ⟨va_K.moved (u := U) (U := U.calling g mk a) (Vm.Alike.refl U.vm) h.1, h.2.call⟩
theorem kI.sub {D : va_G} {tys tys' : List (ClassId × FieldType)} {U : State} (h : kI D tys U) (is : List Nat) (hs : is.filterMap (fun i => tys[i]?) = tys') : kI D tys' U := ⟨h.1.sub is hs, h.2⟩
/-- a method that only reads the cells ws -/
def roP (D : va_G) (tys : List (ClassId × FieldType)) (ws : va_W) : State → Prop := fun U => va_P D vwCl ws U.heap ∧ kI D tys U
theorem ro_fb {As : List Value} {D : va_G} {tys : List (ClassId × FieldType)} {ws : va_W} : FrameBlind (va_Pc As (roP D tys ws)) := fun _ _ _ _ h => ⟨h.1, h.2.1, h.2.2.call⟩
theorem ro_pre {As : List Value} {D : va_G} {tys : List (ClassId × FieldType)} {ws : va_W} {s : State} {H : Heap} (hP : va_P D vwCl ws H) (hK : kI D tys s) : PreS s H (va_Pc As (roP D tys ws)) As :=
  ⟨ro_fb, fun U hU hW => ⟨rfl, by rw [hU]; exact hP, hK.warm hW⟩⟩
theorem ro_preV {As : List Value} {D : va_G} {tys : List (ClassId × FieldType)} {ws : va_W} {s : State} {H : Heap} {b q0 ci : Nat} {q : vw_C} {fs : List Value} (hP : va_P D vwCl ws H) (hK : kI D tys s) (hc : vwCl[ci]? = some q) (he : ws[q0]? = some (b, .inr (ci, fs))) : PreV s H q.1 b (va_Pc (.ref b :: As) (roP D tys ws)) As :=
  ⟨ro_fb, va_recv hK.1 hP hc he, fun U hU hW => ⟨rfl, by rw [hU]; exact hP, hK.warm hW⟩⟩
/-- a method that writes the cells ws, and no others -/
def wrP (D : va_G) (tys : List (ClassId × FieldType)) (ws : va_W) (sz : Nat) : State → Prop := fun U => U.heap.size = sz ∧ va_P D vwCl ws U.heap ∧ kI D tys U ∧ va_D (fun _ => True) ws
theorem wr_fb {As : List Value} {D : va_G} {tys : List (ClassId × FieldType)} {ws : va_W} {sz : Nat} : FrameBlind (va_Pc As (wrP D tys ws sz)) := fun _ _ _ _ h => ⟨h.1, h.2.1, h.2.2.1, h.2.2.2.1.call, h.2.2.2.2⟩
theorem wr_preV {As : List Value} {D : va_G} {tys : List (ClassId × FieldType)} {ws : va_W} {A : Nat → Prop} {s : State} {H : Heap} {b q0 ci : Nat} {q : vw_C} {fs : List Value} (hP : va_P D vwCl ws H) (hD : va_D A ws) (hK : kI D tys s) (hc : vwCl[ci]? = some q) (he : ws[q0]? = some (b, .inr (ci, fs))) : PreV s H q.1 b (va_Pc (.ref b :: As) (wrP D tys ws H.size)) As :=
  ⟨wr_fb, va_recv hK.1 hP hc he, fun U hU hW => ⟨rfl, by rw [hU], by rw [hU]; exact hP, hK.warm hW, hD.weaken (fun _ _ _ _ => trivial)⟩⟩
theorem wr_pre {As : List Value} {D : va_G} {tys : List (ClassId × FieldType)} {ws : va_W} {A : Nat → Prop} {s : State} {H : Heap} (hP : va_P D vwCl ws H) (hD : va_D A ws) (hK : kI D tys s) : PreS s H (va_Pc As (wrP D tys ws H.size)) As :=
  ⟨wr_fb, fun U hU hW => ⟨rfl, by rw [hU], by rw [hU]; exact hP, hK.warm hW, hD.weaken (fun _ _ _ _ => trivial)⟩⟩
/-- cells of a world put at their places -/
def setAll : va_W → List Nat → va_W → va_W
  | ws, p :: ps, x :: es => setAll (ws.set p x) ps es
  | ws, _, _ => ws
theorem setAll_at : ∀ (ps : List Nat) (es ws : va_W) (k : Nat) (q : Nat × va_E), (setAll ws ps es)[k]? = some q → (∃ i : Nat, es[i]? = some q ∧ ps[i]? = some k) ∨ ((∀ i : Nat, i < es.length → ps[i]? ≠ some k) ∧ ws[k]? = some q)
  | [], es, ws, k, q, h => by
    have h : ws[k]? = some q := by cases es <;> exact h
    exact Or.inr ⟨fun i _ => by simp, h⟩
  | p :: ps, [], ws, k, q, h => Or.inr ⟨fun i hi => absurd hi (Nat.not_lt_zero i), h⟩
  | p :: ps, x :: es, ws, k, q, h => by
    have h : (setAll (ws.set p x) ps es)[k]? = some q := h
    rcases setAll_at ps es (ws.set p x) k q h with ⟨i, h1, h2⟩ | ⟨h1, h2⟩
    · exact Or.inl ⟨i + 1, h1, h2⟩
    · by_cases hk : k = p
      · subst hk
        have hl : k < (ws.set k x).length := (List.getElem?_eq_some_iff.mp h2).1
        rw [List.length_set] at hl
        rw [List.getElem?_set_self hl] at h2
        exact Or.inl ⟨0, h2, rfl⟩
      · rw [List.getElem?_set_ne (Ne.symm hk)] at h2
        refine Or.inr ⟨fun i hi => ?_, h2⟩
        cases i with
        | zero => intro z; exact hk (Option.some.inj z).symm
        | succ i => exact h1 i (Nat.lt_of_succ_lt_succ hi)
/-- behind a call of a method that writes the cells at the places ps -/
theorem wr_join {A0 : Nat → Prop} {D : va_G} {cl : List vw_C} {ws wc w1 : va_W} {H H1 : Heap} (hP : va_P D cl ws H) (hD : va_D A0 ws) (ps : List Nat) (hC : ps.map (fun i => ws[i]?) = wc.map some) (hadr : w1.map Prod.fst = wc.map Prod.fst)
    (hk : ∀ q : Nat, q < H.size → ¬ va_A wc H.size q → H1[q]? = H[q]?) (hP1 : va_P D cl w1 H1) : va_P D cl (setAll ws ps w1) H1 ∧ va_D A0 (setAll ws ps w1) := by
  have hlen : w1.length = wc.length := by rw [← List.length_map (f := Prod.fst), hadr, List.length_map]
  have hlp : ps.length = wc.length := by rw [← List.length_map (f := fun i => ws[i]?), hC, List.length_map]
  have at' : ∀ (i k : Nat), ps[i]? = some k → ∃ q, wc[i]? = some q ∧ ws[k]? = some q := by
    intro i k hi
    have h1 : (ps.map (fun i => ws[i]?))[i]? = some ws[k]? := by rw [List.getElem?_map, hi]; rfl
    rw [hC, List.getElem?_map] at h1
    cases hw : wc[i]? with
    | none => rw [hw] at h1; cases h1
    | some q => rw [hw] at h1; exact ⟨q, rfl, (Option.some.inj h1).symm⟩
  have adr : ∀ (i : Nat) (x y : Nat × va_E), w1[i]? = some x → wc[i]? = some y → x.1 = y.1 := by
    intro i x y hx hy
    have h1 : (w1.map Prod.fst)[i]? = some x.1 := by rw [List.getElem?_map, hx]; rfl
    rw [hadr, List.getElem?_map, hy] at h1
    exact (Option.some.inj h1).symm
  have old : ∀ (k : Nat) (q : Nat × va_E), (setAll ws ps w1)[k]? = some q → ∃ q0, ws[k]? = some q0 ∧ q0.1 = q.1 := by
    intro k q h
    rcases setAll_at ps w1 ws k q h with ⟨i, h1, h2⟩ | ⟨-, h2⟩
    · obtain ⟨y, hy, hwk⟩ := at' i k h2
      exact ⟨y, hwk, (adr i q y h1 hy).symm⟩
    · exact ⟨q, h2, rfl⟩
  refine ⟨fun k q h => ?_, ⟨fun i j x y hi hj hxy => ?_, fun k q h => ?_⟩⟩
  · rcases setAll_at ps w1 ws k q h with ⟨i, h1, h2⟩ | ⟨h1, h2⟩
    · exact hP1 i q h1
    · refine (hP k q h2).kept (hk q.1 (hP k q h2).lt (fun hA => ?_))
      rcases hA with ⟨i, e, hi⟩ | hi
      · have hil : i < wc.length := (List.getElem?_eq_some_iff.mp hi).1
        obtain ⟨k2, hk2⟩ : ∃ k2, ps[i]? = some k2 := ⟨ps[i]'(by omega), List.getElem?_eq_getElem (by omega)⟩
        obtain ⟨y, hy, hwk⟩ := at' i k2 hk2
        rw [hi] at hy
        cases hy
        have := hD.1 k k2 q (q.1, e) h2 hwk rfl
        subst this
        exact h1 i (by omega) hk2
      · exact absurd (hP k q h2).lt (by omega)
  · obtain ⟨x0, h1, h2⟩ := old i x hi
    obtain ⟨y0, h3, h4⟩ := old j y hj
    exact hD.1 i j x0 y0 h1 h3 (h2.trans (hxy.trans h4.symm))
  · obtain ⟨q0, h1, h2⟩ := old k q h
    rw [← h2]
    exact hD.2 k q0 h1
section CR
variable {p : Program} {l : Launch} {e : Env} {R : Room} {s : State} {m : MethodId} {args : Array Value} {below : List Frame} {meth : Method} {c : Code} {H : Heap} {locs : List Loc} {cells slots : Nat} {Q : State → Prop}
variable {pc : Nat} {ls : Array Slot} {rest st0 : List Value} {a : Array Value} {A0 : Nat → Prop} {H0 : Heap} {D : va_G} {ws wc w1 : va_W} {cc : ByteArray}
theorem w_Q {g : JFrame} (k : ∀ Q' : State → Prop, Q = Q' → W p l e R s m args below meth c H locs cells slots Q' g) : W p l e R s m args below meth c H locs cells slots Q g := k Q rfl
theorem cs_i {v : Int32} (hr : va_Run p l e R s m args below meth c H locs cells slots 0 0 (F0 m pc ls st0) rest (vp_Si (fun r => r = v) a) (fun _ => False))
    (kk : W p l e R s m args below meth c H locs cells slots Q (F0 m (pc + 3) ls (.int v :: rest))) : W p l e R s m args below meth c H locs cells slots Q (F0 m pc ls st0) := by
  intro T hT X
  obtain ⟨v, st₀, t, T', L, h0, X', hL, e1, e2, ⟨r, hv, hp, hh⟩, st⟩ := hr T hT X
  cases hv
  cases hp
  obtain ⟨t2, a1, b1⟩ := kk T' (by rw [e1, hh, h0]) (Stand.forget X' (fun q h => (hL q h).elim))
  exact ⟨t2, st t2 a1, b1⟩
theorem cs_l {v : Int64} (hr : va_Run p l e R s m args below meth c H locs cells slots 0 0 (F0 m pc ls st0) rest (vp_Sl (fun r => r = v) a) (fun _ => False))
    (kk : W p l e R s m args below meth c H locs cells slots Q (F0 m (pc + 3) ls (.long v :: rest))) : W p l e R s m args below meth c H locs cells slots Q (F0 m pc ls st0) := by
  intro T hT X
  obtain ⟨v, st₀, t, T', L, h0, X', hL, e1, e2, ⟨r, hv, hp, hh⟩, st⟩ := hr T hT X
  cases hv
  cases hp
  obtain ⟨t2, a1, b1⟩ := kk T' (by rw [e1, hh, h0]) (Stand.forget X' (fun q h => (hL q h).elim))
  exact ⟨t2, st t2 a1, b1⟩
theorem cw_i {v : Int32} (hr : va_Run p l e R s m args below meth c H locs cells slots 0 0 (F0 m pc ls st0) rest (va_Qi (fun r (_ : Unit) => r = v) (fun _ t => va_P D vwCl w1 t.heap) (va_A wc H.size) a) (va_A wc H.size))
    (hP : va_P D vwCl ws H) (hD : va_D A0 ws) (hS : va_S A0 H0 H locs) (hA : ∀ q, H0.size ≤ q → A0 q) (ps : List Nat) (hC : ps.map (fun i => ws[i]?) = wc.map some) (hadr : w1.map Prod.fst = wc.map Prod.fst)
    (kk : ∀ (H1 : Heap) (locs1 : List Loc), va_P D vwCl (setAll ws ps w1) H1 → va_D A0 (setAll ws ps w1) → va_S A0 H0 H1 locs1 → W p l e R s m args below meth c H1 locs1 cells slots Q (F0 m (pc + 3) ls (.int v :: rest))) : W p l e R s m args below meth c H locs cells slots Q (F0 m pc ls st0) := by
  have hF := va_free (wc := wc) hD hS hA ps hC
  refine va_calli hr hS (fun q _ h => hF q h) hF (fun r u t H1 locs1 ht hvm hw hB hz hk hS1 => ?_)
  cases hw
  rw [ht] at hB
  obtain ⟨h1, h2⟩ := wr_join hP hD ps hC hadr hk hB
  exact kk H1 locs1 h1 h2 hS1
theorem cw_v (hr : va_Run p l e R s m args below meth c H locs cells slots 0 0 (F0 m pc ls st0) rest (va_Qv (fun (_ : Unit) => True) (fun _ t => va_P D vwCl w1 t.heap) (va_A wc H.size) a) (va_A wc H.size))
    (hP : va_P D vwCl ws H) (hD : va_D A0 ws) (hS : va_S A0 H0 H locs) (hA : ∀ q, H0.size ≤ q → A0 q) (ps : List Nat) (hC : ps.map (fun i => ws[i]?) = wc.map some) (hadr : w1.map Prod.fst = wc.map Prod.fst)
    (kk : ∀ (H1 : Heap) (locs1 : List Loc), va_P D vwCl (setAll ws ps w1) H1 → va_D A0 (setAll ws ps w1) → va_S A0 H0 H1 locs1 → W p l e R s m args below meth c H1 locs1 cells slots Q (F0 m (pc + 3) ls rest)) : W p l e R s m args below meth c H locs cells slots Q (F0 m pc ls st0) := by
  have hF := va_free (wc := wc) hD hS hA ps hC
  refine va_callv hr hS (fun q _ h => hF q h) hF (fun u t H1 locs1 ht hvm hw hB hz hk hS1 => ?_)
  rw [ht] at hB
  obtain ⟨h1, h2⟩ := wr_join hP hD ps hC hadr hk hB
  exact kk H1 locs1 h1 h2 hS1
theorem cw_l {v : Int64} (hr : va_Run p l e R s m args below meth c H locs cells slots 0 0 (F0 m pc ls st0) rest (va_Ql (fun r (_ : Unit) => r = v) (fun _ t => va_P D vwCl w1 t.heap) (va_A wc H.size) a) (va_A wc H.size))
    (hP : va_P D vwCl ws H) (hD : va_D A0 ws) (hS : va_S A0 H0 H locs) (hA : ∀ q, H0.size ≤ q → A0 q) (ps : List Nat) (hC : ps.map (fun i => ws[i]?) = wc.map some) (hadr : w1.map Prod.fst = wc.map Prod.fst)
    (kk : ∀ (H1 : Heap) (locs1 : List Loc), va_P D vwCl (setAll ws ps w1) H1 → va_D A0 (setAll ws ps w1) → va_S A0 H0 H1 locs1 → W p l e R s m args below meth c H1 locs1 cells slots Q (F0 m (pc + 3) ls (.long v :: rest))) : W p l e R s m args below meth c H locs cells slots Q (F0 m pc ls st0) := by
  have hF := va_free (wc := wc) hD hS hA ps hC
  refine va_calll hr hS (fun q _ h => hF q h) hF (fun r u t H1 locs1 ht hvm hw hB hz hk hS1 => ?_)
  cases hw
  rw [ht] at hB
  obtain ⟨h1, h2⟩ := wr_join hP hD ps hC hadr hk hB
  exact kk H1 locs1 h1 h2 hS1
/-- an int of an array at a place that is a number -/
theorem w_ald {tys : List (ClassId × FieldType)} {b : Nat} (hx : p.tables.exec = Jvm.exec) (hb : c.code = cc) (hK : kI D tys s) (hP : va_P D vwCl ws H) (q0 t0 : Nat) {cA : ClassId} {n : Nat} {f : Nat → Int32} (ha : ws[q0]? = some (b, .inl (cA, n, .inl f))) (ht : tys[t0]? = some (cA, .int)) {i : Int32} (j : Nat) (hi : i = nI j) (hj : j < n) (hn : n < 2 ^ 31) (hdg : decode cc pc = .ok (.iaload, 1))
    (kk : W p l e R s m args below meth c H locs cells slots Q (F0 m (pc + 1) ls (.int (f j) :: rest))) : W p l e R s m args below meth c H locs cells slots Q (F0 m pc ls (.int i :: .ref b :: rest)) := by
  subst hi
  refine va_iald hx hb hK.1 hP q0 t0 ha ht (vp_in_nI hj hn) hdg ?_
  rw [nI_clamp (Nat.lt_trans hj hn)]
  exact kk
theorem w_ast {tys : List (ClassId × FieldType)} {b : Nat} (hx : p.tables.exec = Jvm.exec) (hb : c.code = cc) (hK : kI D tys s) (hP : va_P D vwCl ws H) (hD : va_D A0 ws) (hS : va_S A0 H0 H locs) (q0 t0 : Nat) {cA : ClassId} {n : Nat} {f : Nat → Int32} (ha : ws[q0]? = some (b, .inl (cA, n, .inl f))) (ht : tys[t0]? = some (cA, .int)) {i x : Int32} (j : Nat) (hi : i = nI j) (hj : j < n) (hn : n < 2 ^ 31) (hdg : decode cc pc = .ok (.iastore, 1))
    (kk : ∀ (H1 : Heap) (locs1 : List Loc), va_P D vwCl (ws.set q0 (b, .inl (cA, n, .inl (upd f j x)))) H1 → va_D A0 (ws.set q0 (b, .inl (cA, n, .inl (upd f j x)))) → va_S A0 H0 H1 locs1 → W p l e R s m args below meth c H1 locs1 cells slots Q (F0 m (pc + 1) ls rest)) : W p l e R s m args below meth c H locs cells slots Q (F0 m pc ls (.int x :: .int i :: .ref b :: rest)) := by
  subst hi
  refine va_iast hx hb hK.1 hP hD hS q0 t0 ha ht (vp_in_nI hj hn) hdg ?_
  rw [nI_clamp (Nat.lt_trans hj hn)]
  exact kk
end CR
