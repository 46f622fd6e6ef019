/-- the cells of the system, by its state -/
def PSW (cI cS : ClassId) (h sa : Nat) (sg tg : Nat → Nat) (tr : Nat → Nat → Int32) (ln : Nat → Nat) (fo ft : Nat) (fl : Nat → Int32) (fn : Nat) (ro tp tq : Nat) (per rea : Nat → Int32) (rn : Nat) (wo tn td : Nat) (rw : Nat → Int32) (wn : Nat) (od : Nat → Int32) (sr : Nat) : va_W :=
  [(h, .inr (4, [.ref sa, .ref fo, .ref ro, .ref wo, .int (nI sr)])), (sa, .inl (cS, 6, .inr (.inr (.inr (.inr (fun i => some (sg i))))))), (sg 0, .inr (3, [.ref (tg 0), .int (nI (ln 0))])), (tg 0, .inl (cI, 16, .inl (tr 0))), (sg 1, .inr (3, [.ref (tg 1), .int (nI (ln 1))])), (tg 1, .inl (cI, 16, .inl (tr 1))), (sg 2, .inr (3, [.ref (tg 2), .int (nI (ln 2))])), (tg 2, .inl (cI, 16, .inl (tr 2))), (sg 3, .inr (3, [.ref (tg 3), .int (nI (ln 3))])), (tg 3, .inl (cI, 16, .inl (tr 3))), (sg 4, .inr (3, [.ref (tg 4), .int (nI (ln 4))])), (tg 4, .inl (cI, 16, .inl (tr 4))), (sg 5, .inr (3, [.ref (tg 5), .int (nI (ln 5))])), (tg 5, .inl (cI, 16, .inl (tr 5))), (fo, .inr (0, [.ref ft, .int (nI fn)])), (ft, .inl (cI, 24, .inl fl)), (ro, .inr (1, [.ref tp, .ref tq, .int (nI rn)])), (tp, .inl (cI, 4, .inl per)), (tq, .inl (cI, 4, .inl rea)), (wo, .inr (2, [.ref tn, .int (nI wn), .ref td])), (tn, .inl (cI, 64, .inl rw)), (td, .inl (cI, 16, .inl od))]
def upR (f : Nat → Nat → Int32) (k : Nat) (r : Nat → Int32) : Nat → Nat → Int32 := fun c => if c = k then r else f c
theorem psw_s {cI cS : ClassId} {h sa : Nat} {sg tg : Nat → Nat} {tr : Nat → Nat → Int32} {ln : Nat → Nat} {fo ft : Nat} {fl : Nat → Int32} {fn : Nat} {ro tp tq : Nat} {per rea : Nat → Int32} {rn : Nat} {wo tn td : Nat} {rw : Nat → Int32} {wn : Nat} {od : Nat → Int32} {sr : Nat} : ∀ {j : Nat}, j < 6 → (PSW cI cS h sa sg tg tr ln fo ft fl fn ro tp tq per rea rn wo tn td rw wn od sr)[2 + 2 * j]? = some (sg j, .inr (3, [.ref (tg j), .int (nI (ln j))]))
  | 0, _ => rfl
  | 1, _ => rfl
  | 2, _ => rfl
  | 3, _ => rfl
  | 4, _ => rfl
  | 5, _ => rfl
  | k + 6, h => absurd h (by omega)
theorem psw_t {cI cS : ClassId} {h sa : Nat} {sg tg : Nat → Nat} {tr : Nat → Nat → Int32} {ln : Nat → Nat} {fo ft : Nat} {fl : Nat → Int32} {fn : Nat} {ro tp tq : Nat} {per rea : Nat → Int32} {rn : Nat} {wo tn td : Nat} {rw : Nat → Int32} {wn : Nat} {od : Nat → Int32} {sr : Nat} : ∀ {j : Nat}, j < 6 → (PSW cI cS h sa sg tg tr ln fo ft fl fn ro tp tq per rea rn wo tn td rw wn od sr)[3 + 2 * j]? = some (tg j, .inl (cI, 16, .inl (tr j)))
  | 0, _ => rfl
  | 1, _ => rfl
  | 2, _ => rfl
  | 3, _ => rfl
  | 4, _ => rfl
  | 5, _ => rfl
  | k + 6, h => absurd h (by omega)
theorem psw_st {cI cS : ClassId} {h sa : Nat} {sg tg : Nat → Nat} {tr : Nat → Nat → Int32} {ln : Nat → Nat} {fo ft : Nat} {fl : Nat → Int32} {fn : Nat} {ro tp tq : Nat} {per rea : Nat → Int32} {rn : Nat} {wo tn td : Nat} {rw : Nat → Int32} {wn : Nat} {od : Nat → Int32} {sr : Nat} {f : Nat → Int32} : ∀ {j : Nat}, j < 6 → (PSW cI cS h sa sg tg tr ln fo ft fl fn ro tp tq per rea rn wo tn td rw wn od sr).set (3 + 2 * j) (tg j, .inl (cI, 16, .inl f)) = PSW cI cS h sa sg tg (upR tr j f) ln fo ft fl fn ro tp tq per rea rn wo tn td rw wn od sr
  | 0, _ => rfl
  | 1, _ => rfl
  | 2, _ => rfl
  | 3, _ => rfl
  | 4, _ => rfl
  | 5, _ => rfl
  | k + 6, h => absurd h (by omega)
theorem psw_sign {cI cS : ClassId} {h sa : Nat} {sg tg : Nat → Nat} {tr : Nat → Nat → Int32} {ln : Nat → Nat} {fo ft : Nat} {fl : Nat → Int32} {fn : Nat} {ro tp tq : Nat} {per rea : Nat → Int32} {rn : Nat} {wo tn td : Nat} {rw : Nat → Int32} {wn : Nat} {od : Nat → Int32} {sr : Nat} {f : Nat → Int32} {n : Nat} : ∀ {j : Nat}, j < 6 → setAll (PSW cI cS h sa sg tg tr ln fo ft fl fn ro tp tq per rea rn wo tn td rw wn od sr) [2 + 2 * j, 3 + 2 * j] [(sg j, .inr (3, [.ref (tg j), .int (nI n)])), (tg j, .inl (cI, 16, .inl f))] = PSW cI cS h sa sg tg (upR tr j f) (updN ln j n) fo ft fl fn ro tp tq per rea rn wo tn td rw wn od sr
  | 0, _ => rfl
  | 1, _ => rfl
  | 2, _ => rfl
  | 3, _ => rfl
  | 4, _ => rfl
  | 5, _ => rfl
  | k + 6, h => absurd h (by omega)
theorem psw_match {cI cS : ClassId} {h sa : Nat} {sg tg : Nat → Nat} {tr : Nat → Nat → Int32} {ln : Nat → Nat} {fo ft : Nat} {fl : Nat → Int32} {fn : Nat} {ro tp tq : Nat} {per rea : Nat → Int32} {rn : Nat} {wo tn td : Nat} {rw : Nat → Int32} {wn : Nat} {od : Nat → Int32} {sr : Nat} {fl2 : Nat → Int32} {fn2 : Nat} : ∀ {j : Nat}, j < 6 → setAll (PSW cI cS h sa sg tg tr ln fo ft fl fn ro tp tq per rea rn wo tn td rw wn od sr) [14, 15, 2 + 2 * j, 3 + 2 * j] [(fo, .inr (0, [.ref ft, .int (nI fn2)])), (ft, .inl (cI, 24, .inl fl2)), (sg j, .inr (3, [.ref (tg j), .int (nI (ln j))])), (tg j, .inl (cI, 16, .inl (tr j)))] = PSW cI cS h sa sg tg tr ln fo ft fl2 fn2 ro tp tq per rea rn wo tn td rw wn od sr
  | 0, _ => rfl
  | 1, _ => rfl
  | 2, _ => rfl
  | 3, _ => rfl
  | 4, _ => rfl
  | 5, _ => rfl
  | k + 6, h => absurd h (by omega)
theorem psw_copy {cI cS : ClassId} {h sa : Nat} {sg tg : Nat → Nat} {tr : Nat → Nat → Int32} {ln : Nat → Nat} {fo ft : Nat} {fl : Nat → Int32} {fn : Nat} {ro tp tq : Nat} {per rea : Nat → Int32} {rn : Nat} {wo tn td : Nat} {rw : Nat → Int32} {wn : Nat} {od : Nat → Int32} {sr : Nat} {f : Nat → Int32} {n : Nat} : ∀ {c a : Nat}, c < 6 → a < 6 → c ≠ a → setAll (PSW cI cS h sa sg tg tr ln fo ft fl fn ro tp tq per rea rn wo tn td rw wn od sr) [2 + 2 * c, 3 + 2 * c, 2 + 2 * a, 3 + 2 * a] [(sg c, .inr (3, [.ref (tg c), .int (nI n)])), (tg c, .inl (cI, 16, .inl f)), (sg a, .inr (3, [.ref (tg a), .int (nI (ln a))])), (tg a, .inl (cI, 16, .inl (tr a)))] = PSW cI cS h sa sg tg (upR tr c f) (updN ln c n) fo ft fl fn ro tp tq per rea rn wo tn td rw wn od sr
  | 0, 0, _, _, h => absurd rfl h
  | 0, 1, _, _, _ => rfl
  | 0, 2, _, _, _ => rfl
  | 0, 3, _, _, _ => rfl
  | 0, 4, _, _, _ => rfl
  | 0, 5, _, _, _ => rfl
  | 0, k + 6, _, h, _ => absurd h (by omega)
  | 1, 0, _, _, _ => rfl
  | 1, 1, _, _, h => absurd rfl h
  | 1, 2, _, _, _ => rfl
  | 1, 3, _, _, _ => rfl
  | 1, 4, _, _, _ => rfl
  | 1, 5, _, _, _ => rfl
  | 1, k + 6, _, h, _ => absurd h (by omega)
  | 2, 0, _, _, _ => rfl
  | 2, 1, _, _, _ => rfl
  | 2, 2, _, _, h => absurd rfl h
  | 2, 3, _, _, _ => rfl
  | 2, 4, _, _, _ => rfl
  | 2, 5, _, _, _ => rfl
  | 2, k + 6, _, h, _ => absurd h (by omega)
  | 3, 0, _, _, _ => rfl
  | 3, 1, _, _, _ => rfl
  | 3, 2, _, _, _ => rfl
  | 3, 3, _, _, h => absurd rfl h
  | 3, 4, _, _, _ => rfl
  | 3, 5, _, _, _ => rfl
  | 3, k + 6, _, h, _ => absurd h (by omega)
  | 4, 0, _, _, _ => rfl
  | 4, 1, _, _, _ => rfl
  | 4, 2, _, _, _ => rfl
  | 4, 3, _, _, _ => rfl
  | 4, 4, _, _, h => absurd rfl h
  | 4, 5, _, _, _ => rfl
  | 4, k + 6, _, h, _ => absurd h (by omega)
  | 5, 0, _, _, _ => rfl
  | 5, 1, _, _, _ => rfl
  | 5, 2, _, _, _ => rfl
  | 5, 3, _, _, _ => rfl
  | 5, 4, _, _, _ => rfl
  | 5, 5, _, _, h => absurd rfl h
  | 5, k + 6, _, h, _ => absurd h (by omega)
  | k + 6, _, h, _, _ => absurd h (by omega)
theorem pnil (D : va_G) (cl : List vw_C) (H : Heap) : va_P D cl [] H := fun k q h => by simp at h
theorem pcons {D : va_G} {cl : List vw_C} {ws w2 : va_W} {H : Heap} {i : Nat} {x : Nat × va_E} (hP : va_P D cl ws H) (h : ws[i]? = some x) (h2 : va_P D cl w2 H) : va_P D cl (x :: w2) H := by
  intro k q hk
  cases k with
  | zero => cases hk; exact hP i x h
  | succ k => exact h2 k q hk
theorem pmapn {ws : va_W} : ([] : List Nat).map (fun i => ws[i]?) = ([] : va_W).map some := rfl
theorem pmapc {ws w2 : va_W} {i : Nat} {is : List Nat} {x : Nat × va_E} (h : ws[i]? = some x) (h2 : is.map (fun i => ws[i]?) = w2.map some) : (i :: is).map (fun i => ws[i]?) = (x :: w2).map some := by
  rw [List.map_cons, List.map_cons, h, h2]
section AR
variable {p : Program} {l : Launch} {e : Env} {R : Room} {s : State} {m : MethodId} {args : Array Value} {below : List Frame} {meth : Method} {c : Code} {H : Heap} {locs : List Loc} {cells slots : Nat} {Q : State → Prop}
variable {pc : Nat} {ls : Array Slot} {rest : List Value} {D : va_G} {ws : va_W} {cc : ByteArray}
theorem w_aref {tys : List (ClassId × FieldType)} {b : Nat} (hx : p.tables.exec = Jvm.exec) (hb : c.code = cc) (hK : kI D tys s) (hP : va_P D vwCl ws H) (q0 t0 : Nat) {cA : ClassId} {C : String} {n y : Nat} {f : Nat → Option Nat} (ha : ws[q0]? = some (b, .inl (cA, n, .inr (.inr (.inr (.inr f)))))) (ht : tys[t0]? = some (cA, .object C)) {i : Int32} (j : Nat) (hi : i = nI j) (hj : j < n) (hn : n < 2 ^ 31) (hf : f j = some y) (hdg : decode cc pc = .ok (.aaload, 1))
    (kk : W p l e R s m args below meth c H locs cells slots Q (F0 m (pc + 1) ls (.ref y :: rest))) : W p l e R s m args below meth c H locs cells slots Q (F0 m pc ls (.int i :: .ref b :: rest)) := by
  subst hi
  refine va_aldq hx hb hK.1 hP q0 t0 ha ht (vp_in_nI hj hn) hdg ?_
  rw [nI_clamp (Nat.lt_trans hj hn), hf]
  exact kk
end AR
theorem tab_out {x : Int32} (h0 : ¬ x = 0) (h1 : ¬ x = 1) (h2 : ¬ x = 2) (h3 : ¬ x = 3) : x.toInt < 0 ∨ 3 < x.toInt := by
  rw [← Int32.toInt_inj] at h0 h1 h2 h3
  simp only [show (0 : Int32).toInt = 0 from rfl, show (1 : Int32).toInt = 1 from rfl, show (2 : Int32).toInt = 2 from rfl, show (3 : Int32).toInt = 3 from rfl] at h0 h1 h2 h3
  omega
theorem wt_nat {v : Int32} {a b : Nat} (h : ¬ fX6_within v (nI a) (nI b) = 0) (hb : b < 2 ^ 31) (ha : a < 2 ^ 31 := by omega) : ∃ j, a ≤ j ∧ j ≤ b ∧ v = nI j := in_nat (show ¬ fX7_in v (nI a) (nI b) = 0 from h) hb ha
theorem wt_m1 {v : Int32} {n : Nat} (h : ¬ fX6_within v 0 (nI n - 1) = 0) (hn : n < 2 ^ 30) : ∃ j, j < n ∧ v = nI j := in_m1 (show ¬ fX7_in v 0 (nI n - 1) = 0 from h) hn
theorem sg_nat {v : Int32} (h : ¬ fX6_isSign v = 0) : ∃ j, j ≤ 5 ∧ v = nI j := sign_nat (show ¬ fX7_isSign v = 0 from h)
theorem may_nat {er mm xs : Int32} (h : ¬ fX2_mayUnfold er mm xs = 0) : ∃ sp, 1 ≤ sp ∧ sp ≤ 5000 ∧ xs = nI sp := asked_nat (er := er) (mm := mm) (show ¬ fX7_isAsked er mm xs = 0 from h)
theorem seek_nat {w g k sc : Int32} (h : ¬ fX3_maySeek w g k sc = 0) : ∃ wq gq kq, (1 ≤ wq ∧ wq ≤ 8) ∧ gq ≤ 3 ∧ (1 ≤ kq ∧ kq ≤ 8) ∧ w = nI wq ∧ g = nI gq ∧ k = nI kq := by
  unfold fX3_maySeek at h
  split at h
  · exact absurd rfl h
  · next h1 =>
    split at h
    · exact absurd rfl h
    · next h2 =>
      split at h
      · exact absurd rfl h
      · next h3 =>
        obtain ⟨wq, a1, a2, e1⟩ := wt_nat (a := 1) (b := 8) h1 (by omega)
        obtain ⟨gq, -, b2, e2⟩ := wt_nat (a := 0) (b := 3) h2 (by omega)
        obtain ⟨kq, d1, d2, e3⟩ := wt_nat (a := 1) (b := 8) h3 (by omega)
        exact ⟨wq, gq, kq, ⟨a1, a2⟩, b2, ⟨d1, d2⟩, e1, e2, e3⟩
theorem ord_nat {n k : Int32} (h : ¬ fX0_mayOrder n k = 0) : ∃ j, 1 ≤ j ∧ j ≤ 8 ∧ k = nI j := by
  unfold fX0_mayOrder at h
  split at h
  · exact absurd rfl h
  · next h1 =>
    split at h
    · exact absurd rfl h
    · next h2 => exact share_k (show ¬ fX7_in n 1 8 = 0 from h1) (show ¬ fX7_in k 1 n = 0 from h2)
theorem F_cd_ne : ∀ (r k : Nat) (a b : Int64), ¬ F_X6_commonDivisor_9 r k a b = 0 := by
  have key : ∀ a : Int64, ¬ (if lg_cmp a 1 < 0 then (1 : Int64) else a) = 0 := by
    intro a
    split
    · decide
    · next h =>
      intro e
      subst e
      exact h (by decide)
  intro r
  induction r with
  | zero => intro k a b; rw [F_X6_commonDivisor_9]; exact key a
  | succ r ih =>
    intro k a b
    rw [F_X6_commonDivisor_9]
    split
    · exact key a
    · exact ih _ _ _
theorem F_tb1 (b : Int32) (n2 : Nat) : ∀ (r k : Nat) (tr : Nat → Int32), (F_X5_takeBits_7 b n2 r k tr).1 = n2 := by
  intro r
  induction r with
  | zero => intro k tr; rw [F_X5_takeBits_7]
  | succ r ih => intro k tr; rw [F_X5_takeBits_7]; exact ih _ _
theorem tb1 (tr : Nat → Int32) (b : Int32) (n2 : Nat) : (fX5_takeBits tr b n2).1 = n2 := F_tb1 ..
theorem cd_ne (a b : Int64) : ¬ fX6_commonDivisor a b = 0 := F_cd_ne _ _ _ _
