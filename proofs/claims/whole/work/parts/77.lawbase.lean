/-! The law's own base: the reference's cells, the two worlds side by side, calls on the left one and on the right one. -/
def MW (cI : ClassId) (h a0 a1 a3 a5 a6 a8 a12 : Nat) (sn : Nat → Nat) (tu : Nat → Int32) (fn : Nat) (we : Nat → Int32) (rn : Nat) (per : Nat → Nat) (rea : Nat → Int32) (wn : Nat) (rw : Nat → Int32) (bs : Nat) (re ot : Int32) (cp : Nat → Int32) (ab be hh : Int64) : va_W :=
  [(h, .inr (5, [.ref a0, .ref a1, .int (nI fn), .ref a3, .int (nI rn), .ref a5, .ref a6, .int (nI wn), .ref a8, .int (nI bs), .int re, .int ot, .ref a12, .long ab, .long be, .long hh])), (a0, .inl (cI, 6, .inl (fun i => nI (sn i)))), (a1, .inl (cI, 96, .inl tu)), (a3, .inl (cI, 24, .inl we)), (a5, .inl (cI, 4, .inl (fun i => nI (per i)))), (a6, .inl (cI, 4, .inl rea)), (a8, .inl (cI, 64, .inl rw)), (a12, .inl (cI, 16, .inl cp))]
theorem va_P_l {D : va_G} {cl : List vw_C} {a b : va_W} {H : Heap} (h : va_P D cl (a ++ b) H) : va_P D cl a H := fun k q hk => h k q (by
  rw [List.getElem?_append_left (List.getElem?_eq_some_iff.mp hk).1]; exact hk)
theorem va_P_r {D : va_G} {cl : List vw_C} {a b : va_W} {H : Heap} (h : va_P D cl (a ++ b) H) : va_P D cl b H := fun k q hk => h (a.length + k) q (by
  rw [List.getElem?_append_right (Nat.le_add_right _ _), Nat.add_sub_cancel_left]; exact hk)
theorem va_D_l {A : Nat → Prop} {a b : va_W} (h : va_D A (a ++ b)) : va_D A a := by
  have e : ∀ (k : Nat) (q : Nat × va_E), a[k]? = some q → (a ++ b)[k]? = some q := fun k q hk => by
    rw [List.getElem?_append_left (List.getElem?_eq_some_iff.mp hk).1]; exact hk
  exact ⟨fun i j p q hi hj he => h.1 i j p q (e i p hi) (e j q hj) he, fun k q hk => h.2 k q (e k q hk)⟩
theorem va_D_r {A : Nat → Prop} {a b : va_W} (h : va_D A (a ++ b)) : va_D A b := by
  have e : ∀ (k : Nat) (q : Nat × va_E), b[k]? = some q → (a ++ b)[a.length + k]? = some q := fun k q hk => by
    rw [List.getElem?_append_right (Nat.le_add_right _ _), Nat.add_sub_cancel_left]; exact hk
  exact ⟨fun i j p q hi hj he => by have := h.1 _ _ p q (e i p hi) (e j q hj) he; omega, fun k q hk => h.2 _ q (e k q hk)⟩
theorem seg_C : ∀ (wc pre post : va_W), (List.range' pre.length wc.length).map (fun i => (pre ++ (wc ++ post))[i]?) = wc.map some
  | [], pre, post => rfl
  | x :: wc, pre, post => by
    have ih := seg_C wc (pre ++ [x]) post
    rw [List.length_append, List.append_assoc] at ih
    rw [List.length_cons, List.range'_succ, List.map_cons, List.map_cons]
    refine congr (congrArg _ ?_) ih
    rw [List.getElem?_append_right (Nat.le_refl _), Nat.sub_self]
    rfl
theorem seg_set : ∀ (wc w1 pre post : va_W), w1.length = wc.length → setAll (pre ++ (wc ++ post)) (List.range' pre.length wc.length) w1 = pre ++ (w1 ++ post)
  | [], [], pre, post, _ => rfl
  | [], _ :: _, _, _, h => by cases h
  | _ :: _, [], _, _, h => by cases h
  | x :: wc, y :: w1, pre, post, h => by
    have ih := seg_set wc w1 (pre ++ [y]) post (Nat.succ.inj h)
    rw [List.length_append, List.append_assoc, List.append_assoc] at ih
    rw [List.length_cons, List.range'_succ]
    show setAll ((pre ++ (x :: wc ++ post)).set pre.length y) (List.range' (pre.length + 1) wc.length) w1 = _
    rw [List.set_append_right _ _ (Nat.le_refl _), Nat.sub_self]
    exact ih
section LB
variable {p : Program} {l : Launch} {e : Env} {R : Room} {s : State} {m : MethodId} {args : Array Value} {below : List Frame} {meth : Method} {c : Code} {H : Heap} {locs : List Loc} {cells slots : Nat} {Q : State → Prop}
variable {pc : Nat} {ls : Array Slot} {rest st0 : List Value} {a : Array Value} {A0 : Nat → Prop} {H0 : Heap} {D : va_G} {wm wc w1 : va_W} {cc : ByteArray}
theorem cl_i {v : Int32} (hr : va_Run p l e R s m args below meth c H locs cells slots 0 0 (F0 m pc ls st0) rest (va_Qi (fun r (_ : Unit) => r = v) (fun _ t => va_P D vwCl w1 t.heap) (va_A wc H.size) a) (va_A wc H.size))
    (hP : va_P D vwCl (wc ++ wm) H) (hD : va_D A0 (wc ++ wm)) (hS : va_S A0 H0 H locs) (hA : ∀ q, H0.size ≤ q → A0 q) (as : List Nat) (h1 : w1.map Prod.fst = as) (h2 : wc.map Prod.fst = as)
    (kk : ∀ (H1 : Heap) (locs1 : List Loc), va_P D vwCl (w1 ++ wm) H1 → va_D A0 (w1 ++ wm) → va_S A0 H0 H1 locs1 → W p l e R s m args below meth c H1 locs1 cells slots Q (F0 m (pc + 3) ls (.int v :: rest))) : W p l e R s m args below meth c H locs cells slots Q (F0 m pc ls st0) := by
  have hn : w1.length = wc.length := by rw [← List.length_map (f := Prod.fst), h1, ← h2, List.length_map]
  have e := seg_set wc w1 [] wm hn
  refine cx_i hr hP hD hS hA (List.range' 0 wc.length) (seg_C wc [] wm) as h1 h2 (fun H1 locs1 a1 a2 a3 => ?_)
  have e : setAll (wc ++ wm) (List.range' 0 wc.length) w1 = w1 ++ wm := e
  rw [e] at a1 a2
  exact kk H1 locs1 a1 a2 a3
theorem cr_i {v : Int32} (hr : va_Run p l e R s m args below meth c H locs cells slots 0 0 (F0 m pc ls st0) rest (va_Qi (fun r (_ : Unit) => r = v) (fun _ t => va_P D vwCl w1 t.heap) (va_A wc H.size) a) (va_A wc H.size))
    (hP : va_P D vwCl (wm ++ wc) H) (hD : va_D A0 (wm ++ wc)) (hS : va_S A0 H0 H locs) (hA : ∀ q, H0.size ≤ q → A0 q) (as : List Nat) (h1 : w1.map Prod.fst = as) (h2 : wc.map Prod.fst = as)
    (kk : ∀ (H1 : Heap) (locs1 : List Loc), va_P D vwCl (wm ++ w1) H1 → va_D A0 (wm ++ w1) → va_S A0 H0 H1 locs1 → W p l e R s m args below meth c H1 locs1 cells slots Q (F0 m (pc + 3) ls (.int v :: rest))) : W p l e R s m args below meth c H locs cells slots Q (F0 m pc ls st0) := by
  have hn : w1.length = wc.length := by rw [← List.length_map (f := Prod.fst), h1, ← h2, List.length_map]
  have e := seg_set wc w1 wm [] hn
  have e2 := seg_C wc wm []
  rw [List.append_nil] at e e2
  rw [List.append_nil] at e
  refine cx_i hr hP hD hS hA (List.range' wm.length wc.length) e2 as h1 h2 (fun H1 locs1 a1 a2 a3 => ?_)
  rw [e] at a1 a2
  exact kk H1 locs1 a1 a2 a3
theorem cr_l {v : Int64} (hr : va_Run p l e R s m args below meth c H locs cells slots 0 0 (F0 m pc ls st0) rest (va_Ql (fun r (_ : Unit) => r = v) (fun _ t => va_P D vwCl w1 t.heap) (va_A wc H.size) a) (va_A wc H.size))
    (hP : va_P D vwCl (wm ++ wc) H) (hD : va_D A0 (wm ++ wc)) (hS : va_S A0 H0 H locs) (hA : ∀ q, H0.size ≤ q → A0 q) (as : List Nat) (h1 : w1.map Prod.fst = as) (h2 : wc.map Prod.fst = as)
    (kk : ∀ (H1 : Heap) (locs1 : List Loc), va_P D vwCl (wm ++ w1) H1 → va_D A0 (wm ++ w1) → va_S A0 H0 H1 locs1 → W p l e R s m args below meth c H1 locs1 cells slots Q (F0 m (pc + 3) ls (.long v :: rest))) : W p l e R s m args below meth c H locs cells slots Q (F0 m pc ls st0) := by
  have hn : w1.length = wc.length := by rw [← List.length_map (f := Prod.fst), h1, ← h2, List.length_map]
  have e := seg_set wc w1 wm [] hn
  have e2 := seg_C wc wm []
  rw [List.append_nil] at e e2
  rw [List.append_nil] at e
  refine cx_l hr hP hD hS hA (List.range' wm.length wc.length) e2 as h1 h2 (fun H1 locs1 a1 a2 a3 => ?_)
  rw [e] at a1 a2
  exact kk H1 locs1 a1 a2 a3
end LB
/-- what stands between two calls: both objects' cells, and the relation -/
def LWS (D : va_G) (cI cS : ClassId) (A0 : Nat → Prop) (H0 : Heap) (h hm : Nat) (H : Heap) (locs : List Loc) : Prop :=
  ∃ (sa : Nat) (sg tg : Nat → Nat) (tr : Nat → Nat → Int32) (ln : Nat → Nat) (fo ft : Nat) (fl : Nat → Int32) (fn ro tp tq : Nat) (per rea : Nat → Int32) (rn wo tn td : Nat) (rw : Nat → Int32) (wn : Nat) (od : Nat → Int32) (sr : Nat) (a0 a1 a3 a5 a6 a8 a12 : Nat) (sn : Nat → Nat) (tu : Nat → Int32) (fm : Nat) (we : Nat → Int32) (rm : Nat) (pm : Nat → Nat) (ra : Nat → Int32) (wm : Nat) (rv : Nat → Int32) (bs : Nat) (re ot : Int32) (cp : Nat → Int32) (ab be hh : Int64),
    (va_P D vwCl (PSW cI cS h sa sg tg tr ln fo ft fl fn ro tp tq per rea rn wo tn td rw wn od sr ++ MW cI hm a0 a1 a3 a5 a6 a8 a12 sn tu fm we rm pm ra wm rv bs re ot cp ab be hh) H ∧ va_D A0 (PSW cI cS h sa sg tg tr ln fo ft fl fn ro tp tq per rea rn wo tn td rw wn od sr ++ MW cI hm a0 a1 a3 a5 a6 a8 a12 sn tu fm we rm pm ra wm rv bs re ot cp ab be hh) ∧ va_S A0 H0 H locs) ∧
    RS tr ln sn tu ∧ RF fl fn we fm ∧ RR per rea rn pm ra rm ∧ RW rw wn rv wm ∧ sr = bs ∧ bs ≤ 30
theorem RS.hln {tr : Nat → Nat → Int32} {ln sn : Nat → Nat} {tu : Nat → Int32} (h : RS tr ln sn tu) : ∀ c, c < 6 → 1 ≤ ln c ∧ ln c ≤ 16 := fun c hc => (h.1 c hc).2
theorem RS.hsn {tr : Nat → Nat → Int32} {ln sn : Nat → Nat} {tu : Nat → Int32} (h : RS tr ln sn tu) : ∀ c, c < 6 → 1 ≤ sn c ∧ sn c ≤ 16 := fun c hc => by
  rw [← (h.1 c hc).1]; exact (h.1 c hc).2
theorem RF.hfn {fl : Nat → Int32} {fn : Nat} {we : Nat → Int32} {fm : Nat} (h : RF fl fn we fm) : 1 ≤ fn ∧ fn ≤ 24 := h.2.1
theorem RF.hfm {fl : Nat → Int32} {fn : Nat} {we : Nat → Int32} {fm : Nat} (h : RF fl fn we fm) : 1 ≤ fm ∧ fm ≤ 24 := by rw [← h.1]; exact h.2.1
theorem RR.hrn {per rea : Nat → Int32} {rn : Nat} {pm : Nat → Nat} {ra : Nat → Int32} {rm : Nat} (h : RR per rea rn pm ra rm) : 1 ≤ rn ∧ rn ≤ 4 := h.2.1
theorem RR.hrm {per rea : Nat → Int32} {rn : Nat} {pm : Nat → Nat} {ra : Nat → Int32} {rm : Nat} (h : RR per rea rn pm ra rm) : 1 ≤ rm ∧ rm ≤ 4 := by rw [← h.1]; exact h.2.1
theorem RR.hper {per rea : Nat → Int32} {rn : Nat} {pm : Nat → Nat} {ra : Nat → Int32} {rm : Nat} (h : RR per rea rn pm ra rm) : ∀ i, i < 4 → ¬ per i = 0 := fun i hi => by
  obtain ⟨p, h1, h2, e⟩ := h.2.2.2.2 i hi
  rw [e]; exact nI_ne0 (by omega) (by omega)
theorem RR.hpm {per rea : Nat → Int32} {rn : Nat} {pm : Nat → Nat} {ra : Nat → Int32} {rm : Nat} (h : RR per rea rn pm ra rm) : ∀ i, i < rm → 2 ≤ pm i ∧ pm i ≤ 60 := by rw [← h.1]; exact h.2.2.2.1
theorem RW.hwn {rw : Nat → Int32} {wn : Nat} {rm : Nat → Int32} {wm : Nat} (h : RW rw wn rm wm) : wn ≤ 64 := h.2.1
theorem RW.hwm {rw : Nat → Int32} {wn : Nat} {rm : Nat → Int32} {wm : Nat} (h : RW rw wn rm wm) : wm ≤ 64 := by rw [← h.1]; exact h.2.1
