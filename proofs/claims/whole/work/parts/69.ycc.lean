def nF (T : Tp) (a lo hi : Nat) : Nat := if tK T a = 2 then (if lo ≤ tV T a ∧ tV T a ≤ hi then 0 else 2) else 1
def S34T (G : xG) (as : List Value) (m : xM) (Q : xQt) : Prop := Tri G 34 as m Q
def S27T (G : xG) (as : List Value) (m : xM) (Q : xQt) : Prop := Tri G 27 as m Q
def S33T (G : xG) (as : List Value) (m : xM) (Q : xQt) : Prop := Tri G 33 as m Q
def S47T (G : xG) (as : List Value) (m : xM) (Q : xQt) : Prop := Tri G 47 as m Q
def S48T (G : xG) (as : List Value) (m : xM) (Q : xQt) : Prop := Tri G 48 as m Q

def S46 (as : List Value) (m : xM) (Q : xQt) : Prop := match as with
  | [.ref o, .int x, .int y] => wp (fun _ _ _ _ => False) (fun _ => false) Q (some .boolean) (TT []) none i46 [.ref o, .int x, .int y] [] m
  | _ => False
theorem s46 (o : Nat) (x : Int32) (y : Int32) (m : xM) (Q : xQt) : S46 [.ref o, .int x, .int y] m Q = wp (fun _ _ _ _ => False) (fun _ => false) Q (some .boolean) (TT []) none i46 [.ref o, .int x, .int y] [] m := rfl
theorem t46 {G : xG} : ∀ as m Q, S46 as m Q → Tri G 46 as m Q := by
  intro as m Q h
  match as, h with
  | [.ref o, .int x, .int y], h => exact tri_wp (T := TT []) (ls := [.ref o, .int x, .int y]) TTn c46 (by decide +kernel) (rt0 := some .boolean) rfl rfl (Nat.le_of_ble_eq_true rfl) rfl h

theorem t33x {G : xG} {m : xM} {Q : xQt} {T : Tp} {a q : Nat} {r : Int32} (hT : tpC T m) (ha : a ≤ T.2) (hr : rOK T (m.1 5) a) (h4 : q < 4) (hq1 : ¬ tW T a q → Q (some (.int 0)) (xa m 5 (upd (upd (m.1 5) 7 1) 8 (nI (tS T a))))) (hq3 : tW T a q → r = 0 → Q (some (.int 0)) (xa m 5 (upd (upd (m.1 5) 7 3) 8 (nI (tS T a))))) (hqk : tW T a q → ¬ r = 0 → ∀ c', rOK T c' (tE T a) → (∀ q, (q < 2 ∨ 5 < q) → c' q = m.1 5 q) → Q (some (.int 1)) (xa m 5 c')) : Tri G 33 [.ref 5, .ref (1000 + q), .int r] m Q := by
  obtain ⟨r2, r3, r4, r5⟩ := hr
  obtain ⟨eb1, eb2⟩ := tE_b ha
  have k4 := tK_4 T a
  have hT2 := hT.2.1
  refine tri_wp (T := TT [(34, S34T G), (27, S27T G), (46, S46)]) (ls := [.ref 5, .ref (1000 + q), .int r]) (TTc (fun as m Q h => h) (TTc (fun as m Q h => h) (TTc t46 TTn))) c33 (by decide +kernel) (rt0 := some .boolean) rfl rfl (Nat.le_of_ble_eq_true rfl) rfl ?_
  simp (disch := omega) only [i33, wp_iinc, wpE0, wpE1, wpE2, wpE3, wpE4, wpE5, wpJ, okS, lt4S, popR, litS, Int32.reduceLT, Int32.reduceLE, List.getElem?_cons_zero, List.getElem?_cons_succ, Bool.false_eq_true, ↓reduceIte, Nat.reduceMod, Nat.reduceDiv, Nat.reduceAdd, Nat.reduceSub, Nat.reduceMul, Nat.reduceLeDiff, Nat.reduceEqDiff, Nat.reduceBEq, Int.reduceToNat, Int.reduceAdd, Int32.reduceOfInt, Int64.reduceOfInt, Int32.reduceToNatClampNeg, Int32.reduceOfNat, Bool.or_self, Bool.or_false, Bool.false_or, Bool.true_or, Bool.or_true, true_and, and_true, false_and, and_false, List.set_cons_zero, List.set_cons_succ, List.take_succ_cons, List.take_zero, List.drop_succ_cons, List.drop_zero, List.reverse_cons, List.reverse_nil, List.nil_append, List.cons_append, List.length_cons, List.length_nil, Option.toList_some, Option.toList_none, not_true_eq_false, not_false_eq_true, forall_const, true_implies, false_implies, nrw, TTS, shO, sh7L, and01, bI_0, bI_and, isCl, isRl, cmpS, toLS, toL_le, toL_lt, i2lS, inM, Int64.reduceLE, Int64.reduceLT, xa_1, xa_2, xa_xa, upd_at, updU, Nat.reduceEqDiff, ↓reduceIte, not_true_eq_false, not_false_eq_true, and_true, true_and, and_false, false_and, and_self, or_true, true_or, or_false, false_or, ↓reduceIte, if_true, if_false, eq_self, shO, clN, inN, linS, nI_add, S34T, S27T, s46, i46, r2, r3, r4, bI_0, not_true_eq_false, not_false_eq_true, and_true, true_and, and_false, false_and, and_self, or_true, true_or, or_false, false_or, ↓reduceIte, if_true, if_false, eq_self]
  refine t34x hT ha ⟨r2, r3, r4, r5⟩ h4 ?_
  by_cases c1 : tW T a q
  · rw [bI_t c1]
    by_cases c2 : r = 0
    · simp (disch := omega) only [wp_iinc, wpE0, wpE1, wpE2, wpE3, wpE4, wpE5, wpJ, okS, lt4S, popR, litS, Int32.reduceLT, Int32.reduceLE, List.getElem?_cons_zero, List.getElem?_cons_succ, Bool.false_eq_true, ↓reduceIte, Nat.reduceMod, Nat.reduceDiv, Nat.reduceAdd, Nat.reduceSub, Nat.reduceMul, Nat.reduceLeDiff, Nat.reduceEqDiff, Nat.reduceBEq, Int.reduceToNat, Int.reduceAdd, Int32.reduceOfInt, Int64.reduceOfInt, Int32.reduceToNatClampNeg, Int32.reduceOfNat, Bool.or_self, Bool.or_false, Bool.false_or, Bool.true_or, Bool.or_true, true_and, and_true, false_and, and_false, List.set_cons_zero, List.set_cons_succ, List.take_succ_cons, List.take_zero, List.drop_succ_cons, List.drop_zero, List.reverse_cons, List.reverse_nil, List.nil_append, List.cons_append, List.length_cons, List.length_nil, Option.toList_some, Option.toList_none, not_true_eq_false, not_false_eq_true, forall_const, true_implies, false_implies, nrw, TTS, shO, sh7L, and01, bI_0, bI_and, isCl, isRl, cmpS, toLS, toL_le, toL_lt, i2lS, inM, Int64.reduceLE, Int64.reduceLT, xa_1, xa_2, xa_xa, upd_at, updU, Nat.reduceEqDiff, ↓reduceIte, not_true_eq_false, not_false_eq_true, and_true, true_and, and_false, false_and, and_self, or_true, true_or, or_false, false_or, ↓reduceIte, if_true, if_false, eq_self, shO, clN, inN, linS, nI_add, S34T, S27T, s46, i46, r2, r3, r4, bI_0, c2, not_true_eq_false, not_false_eq_true, and_true, true_and, and_false, false_and, and_self, or_true, true_or, or_false, false_or, ↓reduceIte, if_true, if_false, eq_self]
      exact hq3 c1 c2
    · simp (disch := omega) only [wp_iinc, wpE0, wpE1, wpE2, wpE3, wpE4, wpE5, wpJ, okS, lt4S, popR, litS, Int32.reduceLT, Int32.reduceLE, List.getElem?_cons_zero, List.getElem?_cons_succ, Bool.false_eq_true, ↓reduceIte, Nat.reduceMod, Nat.reduceDiv, Nat.reduceAdd, Nat.reduceSub, Nat.reduceMul, Nat.reduceLeDiff, Nat.reduceEqDiff, Nat.reduceBEq, Int.reduceToNat, Int.reduceAdd, Int32.reduceOfInt, Int64.reduceOfInt, Int32.reduceToNatClampNeg, Int32.reduceOfNat, Bool.or_self, Bool.or_false, Bool.false_or, Bool.true_or, Bool.or_true, true_and, and_true, false_and, and_false, List.set_cons_zero, List.set_cons_succ, List.take_succ_cons, List.take_zero, List.drop_succ_cons, List.drop_zero, List.reverse_cons, List.reverse_nil, List.nil_append, List.cons_append, List.length_cons, List.length_nil, Option.toList_some, Option.toList_none, not_true_eq_false, not_false_eq_true, forall_const, true_implies, false_implies, nrw, TTS, shO, sh7L, and01, bI_0, bI_and, isCl, isRl, cmpS, toLS, toL_le, toL_lt, i2lS, inM, Int64.reduceLE, Int64.reduceLT, xa_1, xa_2, xa_xa, upd_at, updU, Nat.reduceEqDiff, ↓reduceIte, not_true_eq_false, not_false_eq_true, and_true, true_and, and_false, false_and, and_self, or_true, true_or, or_false, false_or, ↓reduceIte, if_true, if_false, eq_self, shO, clN, inN, linS, nI_add, S34T, S27T, s46, i46, r2, r3, r4, bI_0, c2, not_true_eq_false, not_false_eq_true, and_true, true_and, and_false, false_and, and_self, or_true, true_or, or_false, false_or, ↓reduceIte, if_true, if_false, eq_self]
      refine t27x (T := T) (a := tE T a) hT eb2 r2 (fun c' h1 h2 => ?_)
      simp (disch := omega) only [wp_iinc, wpE0, wpE1, wpE2, wpE3, wpE4, wpE5, wpJ, okS, lt4S, popR, litS, Int32.reduceLT, Int32.reduceLE, List.getElem?_cons_zero, List.getElem?_cons_succ, Bool.false_eq_true, ↓reduceIte, Nat.reduceMod, Nat.reduceDiv, Nat.reduceAdd, Nat.reduceSub, Nat.reduceMul, Nat.reduceLeDiff, Nat.reduceEqDiff, Nat.reduceBEq, Int.reduceToNat, Int.reduceAdd, Int32.reduceOfInt, Int64.reduceOfInt, Int32.reduceToNatClampNeg, Int32.reduceOfNat, Bool.or_self, Bool.or_false, Bool.false_or, Bool.true_or, Bool.or_true, true_and, and_true, false_and, and_false, List.set_cons_zero, List.set_cons_succ, List.take_succ_cons, List.take_zero, List.drop_succ_cons, List.drop_zero, List.reverse_cons, List.reverse_nil, List.nil_append, List.cons_append, List.length_cons, List.length_nil, Option.toList_some, Option.toList_none, not_true_eq_false, not_false_eq_true, forall_const, true_implies, false_implies, nrw, TTS, shO, sh7L, and01, bI_0, bI_and, isCl, isRl, cmpS, toLS, toL_le, toL_lt, i2lS, inM, Int64.reduceLE, Int64.reduceLT, xa_1, xa_2, xa_xa, upd_at, updU, Nat.reduceEqDiff, ↓reduceIte, not_true_eq_false, not_false_eq_true, and_true, true_and, and_false, false_and, and_self, or_true, true_or, or_false, false_or, ↓reduceIte, if_true, if_false, eq_self, shO, clN, inN, linS, nI_add, S34T, S27T, s46, i46, r2, r3, r4, bI_0, not_true_eq_false, not_false_eq_true, and_true, true_and, and_false, false_and, and_self, or_true, true_or, or_false, false_or, ↓reduceIte, if_true, if_false, eq_self]
      exact hqk c1 c2 c' h1 h2
  · rw [bI_f c1]
    simp (disch := omega) only [wp_iinc, wpE0, wpE1, wpE2, wpE3, wpE4, wpE5, wpJ, okS, lt4S, popR, litS, Int32.reduceLT, Int32.reduceLE, List.getElem?_cons_zero, List.getElem?_cons_succ, Bool.false_eq_true, ↓reduceIte, Nat.reduceMod, Nat.reduceDiv, Nat.reduceAdd, Nat.reduceSub, Nat.reduceMul, Nat.reduceLeDiff, Nat.reduceEqDiff, Nat.reduceBEq, Int.reduceToNat, Int.reduceAdd, Int32.reduceOfInt, Int64.reduceOfInt, Int32.reduceToNatClampNeg, Int32.reduceOfNat, Bool.or_self, Bool.or_false, Bool.false_or, Bool.true_or, Bool.or_true, true_and, and_true, false_and, and_false, List.set_cons_zero, List.set_cons_succ, List.take_succ_cons, List.take_zero, List.drop_succ_cons, List.drop_zero, List.reverse_cons, List.reverse_nil, List.nil_append, List.cons_append, List.length_cons, List.length_nil, Option.toList_some, Option.toList_none, not_true_eq_false, not_false_eq_true, forall_const, true_implies, false_implies, nrw, TTS, shO, sh7L, and01, bI_0, bI_and, isCl, isRl, cmpS, toLS, toL_le, toL_lt, i2lS, inM, Int64.reduceLE, Int64.reduceLT, xa_1, xa_2, xa_xa, upd_at, updU, Nat.reduceEqDiff, ↓reduceIte, not_true_eq_false, not_false_eq_true, and_true, true_and, and_false, false_and, and_self, or_true, true_or, or_false, false_or, ↓reduceIte, if_true, if_false, eq_self, shO, clN, inN, linS, nI_add, S34T, S27T, s46, i46, r2, r3, r4, bI_0, not_true_eq_false, not_false_eq_true, and_true, true_and, and_false, false_and, and_self, or_true, true_or, or_false, false_or, ↓reduceIte, if_true, if_false, eq_self]
    exact hq1 c1


theorem t47x {G : xG} {m : xM} {Q : xQt} {T : Tp} {a lo hi : Nat} (hT : tpC T m) (ha : a ≤ T.2) (hr : rOK T (m.1 5) a) (hlo : lo ≤ 999) (hhi : hi ≤ 999) (hqf : ¬ nF T a lo hi = 0 → Q (some (.int 0)) (xa m 5 (upd (upd (m.1 5) 7 (nI (nF T a lo hi))) 8 (nI (tS T a))))) (hqk : nF T a lo hi = 0 → ∀ c', rOK T c' (tE T a) → c' 6 = nI (tV T a) → (∀ q, (q < 2 ∨ 6 < q) → c' q = m.1 5 q) → Q (some (.int 1)) (xa m 5 c')) : Tri G 47 [.ref 5, .int (nI lo), .int (nI hi)] m Q := by
  obtain ⟨r2, r3, r4, r5⟩ := hr
  obtain ⟨eb1, eb2⟩ := tE_b ha
  have k4 := tK_4 T a
  have hT2 := hT.2.1
  by_cases c1 : tK T a = 2
  · have c1' : nI (tK T a) = 2 := by rw [c1]; rfl
    have r5' := r5 c1
    have v9 := tV_b c1
    by_cases c2 : lo ≤ tV T a
    · have c2' : ¬ nI (tV T a) < nI lo := nI_nlt c2 (by omega)
      have c2'' : nI lo ≤ nI (tV T a) := nI_le c2 (by omega)
      by_cases c3 : tV T a ≤ hi
      · have c3' : nI (tV T a) ≤ nI hi := nI_le c3 (by omega)
        have c3'' : ¬ nI hi < nI (tV T a) := Int32.not_lt.mpr c3'
        have e : nF T a lo hi = 0 := by unfold nF; rw [if_pos c1, if_pos ⟨c2, c3⟩]
        refine tri_wp (T := TT [(34, S34T G), (27, S27T G), (46, S46)]) (ls := [.ref 5, .int (nI lo), .int (nI hi)]) (TTc (fun as m Q h => h) (TTc (fun as m Q h => h) (TTc t46 TTn))) c47 (by decide +kernel) (rt0 := some .boolean) rfl rfl (Nat.le_of_ble_eq_true rfl) rfl ?_
        simp (disch := omega) only [i47, wp_iinc, wpE0, wpE1, wpE2, wpE3, wpE4, wpE5, wpJ, okS, lt4S, popR, litS, Int32.reduceLT, Int32.reduceLE, List.getElem?_cons_zero, List.getElem?_cons_succ, Bool.false_eq_true, ↓reduceIte, Nat.reduceMod, Nat.reduceDiv, Nat.reduceAdd, Nat.reduceSub, Nat.reduceMul, Nat.reduceLeDiff, Nat.reduceEqDiff, Nat.reduceBEq, Int.reduceToNat, Int.reduceAdd, Int32.reduceOfInt, Int64.reduceOfInt, Int32.reduceToNatClampNeg, Int32.reduceOfNat, Bool.or_self, Bool.or_false, Bool.false_or, Bool.true_or, Bool.or_true, true_and, and_true, false_and, and_false, List.set_cons_zero, List.set_cons_succ, List.take_succ_cons, List.take_zero, List.drop_succ_cons, List.drop_zero, List.reverse_cons, List.reverse_nil, List.nil_append, List.cons_append, List.length_cons, List.length_nil, Option.toList_some, Option.toList_none, not_true_eq_false, not_false_eq_true, forall_const, true_implies, false_implies, nrw, TTS, shO, sh7L, and01, bI_0, bI_and, isCl, isRl, cmpS, toLS, toL_le, toL_lt, i2lS, inM, Int64.reduceLE, Int64.reduceLT, xa_1, xa_2, xa_xa, upd_at, updU, Nat.reduceEqDiff, ↓reduceIte, not_true_eq_false, not_false_eq_true, and_true, true_and, and_false, false_and, and_self, or_true, true_or, or_false, false_or, ↓reduceIte, if_true, if_false, eq_self, shO, clN, inN, linS, nI_add, S34T, S27T, s46, i46, r2, r3, r4, bI_0, c1', r5', c2', c2'', c3', c3'', not_true_eq_false, not_false_eq_true, and_true, true_and, and_false, false_and, and_self, or_true, true_or, or_false, false_or, ↓reduceIte, if_true, if_false, eq_self]
        refine t27x (T := T) (a := tE T a) (tpC_c hT rfl) eb2 r2 (fun c' h1 h2 => ?_)
        simp (disch := omega) only [wp_iinc, wpE0, wpE1, wpE2, wpE3, wpE4, wpE5, wpJ, okS, lt4S, popR, litS, Int32.reduceLT, Int32.reduceLE, List.getElem?_cons_zero, List.getElem?_cons_succ, Bool.false_eq_true, ↓reduceIte, Nat.reduceMod, Nat.reduceDiv, Nat.reduceAdd, Nat.reduceSub, Nat.reduceMul, Nat.reduceLeDiff, Nat.reduceEqDiff, Nat.reduceBEq, Int.reduceToNat, Int.reduceAdd, Int32.reduceOfInt, Int64.reduceOfInt, Int32.reduceToNatClampNeg, Int32.reduceOfNat, Bool.or_self, Bool.or_false, Bool.false_or, Bool.true_or, Bool.or_true, true_and, and_true, false_and, and_false, List.set_cons_zero, List.set_cons_succ, List.take_succ_cons, List.take_zero, List.drop_succ_cons, List.drop_zero, List.reverse_cons, List.reverse_nil, List.nil_append, List.cons_append, List.length_cons, List.length_nil, Option.toList_some, Option.toList_none, not_true_eq_false, not_false_eq_true, forall_const, true_implies, false_implies, nrw, TTS, shO, sh7L, and01, bI_0, bI_and, isCl, isRl, cmpS, toLS, toL_le, toL_lt, i2lS, inM, Int64.reduceLE, Int64.reduceLT, xa_1, xa_2, xa_xa, upd_at, updU, Nat.reduceEqDiff, ↓reduceIte, not_true_eq_false, not_false_eq_true, and_true, true_and, and_false, false_and, and_self, or_true, true_or, or_false, false_or, ↓reduceIte, if_true, if_false, eq_self, shO, clN, inN, linS, nI_add, S34T, S27T, s46, i46, r2, r3, r4, bI_0, not_true_eq_false, not_false_eq_true, and_true, true_and, and_false, false_and, and_self, or_true, true_or, or_false, false_or, ↓reduceIte, if_true, if_false, eq_self]
        exact hqk e c' h1 (h2 6 (by omega)) (fun q hq => (h2 q (by omega)).trans (upd_ne (by omega)))
      · have c3' : ¬ nI (tV T a) ≤ nI hi := nI_ge (by omega) (by omega)
        have c3'' : nI hi < nI (tV T a) := Int32.not_le.mp c3'
        have e : nF T a lo hi = 2 := by unfold nF; rw [if_pos c1, if_neg (fun y => c3 y.2)]
        have hq := hqf (by omega)
        rw [e] at hq
        refine tri_wp (T := TT [(34, S34T G), (27, S27T G), (46, S46)]) (ls := [.ref 5, .int (nI lo), .int (nI hi)]) (TTc (fun as m Q h => h) (TTc (fun as m Q h => h) (TTc t46 TTn))) c47 (by decide +kernel) (rt0 := some .boolean) rfl rfl (Nat.le_of_ble_eq_true rfl) rfl ?_
        simp (disch := omega) only [i47, wp_iinc, wpE0, wpE1, wpE2, wpE3, wpE4, wpE5, wpJ, okS, lt4S, popR, litS, Int32.reduceLT, Int32.reduceLE, List.getElem?_cons_zero, List.getElem?_cons_succ, Bool.false_eq_true, ↓reduceIte, Nat.reduceMod, Nat.reduceDiv, Nat.reduceAdd, Nat.reduceSub, Nat.reduceMul, Nat.reduceLeDiff, Nat.reduceEqDiff, Nat.reduceBEq, Int.reduceToNat, Int.reduceAdd, Int32.reduceOfInt, Int64.reduceOfInt, Int32.reduceToNatClampNeg, Int32.reduceOfNat, Bool.or_self, Bool.or_false, Bool.false_or, Bool.true_or, Bool.or_true, true_and, and_true, false_and, and_false, List.set_cons_zero, List.set_cons_succ, List.take_succ_cons, List.take_zero, List.drop_succ_cons, List.drop_zero, List.reverse_cons, List.reverse_nil, List.nil_append, List.cons_append, List.length_cons, List.length_nil, Option.toList_some, Option.toList_none, not_true_eq_false, not_false_eq_true, forall_const, true_implies, false_implies, nrw, TTS, shO, sh7L, and01, bI_0, bI_and, isCl, isRl, cmpS, toLS, toL_le, toL_lt, i2lS, inM, Int64.reduceLE, Int64.reduceLT, xa_1, xa_2, xa_xa, upd_at, updU, Nat.reduceEqDiff, ↓reduceIte, not_true_eq_false, not_false_eq_true, and_true, true_and, and_false, false_and, and_self, or_true, true_or, or_false, false_or, ↓reduceIte, if_true, if_false, eq_self, shO, clN, inN, linS, nI_add, S34T, S27T, s46, i46, r2, r3, r4, bI_0, c1', r5', c2', c2'', c3', c3'', not_true_eq_false, not_false_eq_true, and_true, true_and, and_false, false_and, and_self, or_true, true_or, or_false, false_or, ↓reduceIte, if_true, if_false, eq_self]
        exact hq
    · have c2' : nI (tV T a) < nI lo := nI_lt (by omega) (by omega)
      have c2'' : ¬ nI lo ≤ nI (tV T a) := Int32.not_le.mpr c2'
      have e : nF T a lo hi = 2 := by unfold nF; rw [if_pos c1, if_neg (fun y => c2 y.1)]
      have hq := hqf (by omega)
      rw [e] at hq
      refine tri_wp (T := TT [(34, S34T G), (27, S27T G), (46, S46)]) (ls := [.ref 5, .int (nI lo), .int (nI hi)]) (TTc (fun as m Q h => h) (TTc (fun as m Q h => h) (TTc t46 TTn))) c47 (by decide +kernel) (rt0 := some .boolean) rfl rfl (Nat.le_of_ble_eq_true rfl) rfl ?_
      simp (disch := omega) only [i47, wp_iinc, wpE0, wpE1, wpE2, wpE3, wpE4, wpE5, wpJ, okS, lt4S, popR, litS, Int32.reduceLT, Int32.reduceLE, List.getElem?_cons_zero, List.getElem?_cons_succ, Bool.false_eq_true, ↓reduceIte, Nat.reduceMod, Nat.reduceDiv, Nat.reduceAdd, Nat.reduceSub, Nat.reduceMul, Nat.reduceLeDiff, Nat.reduceEqDiff, Nat.reduceBEq, Int.reduceToNat, Int.reduceAdd, Int32.reduceOfInt, Int64.reduceOfInt, Int32.reduceToNatClampNeg, Int32.reduceOfNat, Bool.or_self, Bool.or_false, Bool.false_or, Bool.true_or, Bool.or_true, true_and, and_true, false_and, and_false, List.set_cons_zero, List.set_cons_succ, List.take_succ_cons, List.take_zero, List.drop_succ_cons, List.drop_zero, List.reverse_cons, List.reverse_nil, List.nil_append, List.cons_append, List.length_cons, List.length_nil, Option.toList_some, Option.toList_none, not_true_eq_false, not_false_eq_true, forall_const, true_implies, false_implies, nrw, TTS, shO, sh7L, and01, bI_0, bI_and, isCl, isRl, cmpS, toLS, toL_le, toL_lt, i2lS, inM, Int64.reduceLE, Int64.reduceLT, xa_1, xa_2, xa_xa, upd_at, updU, Nat.reduceEqDiff, ↓reduceIte, not_true_eq_false, not_false_eq_true, and_true, true_and, and_false, false_and, and_self, or_true, true_or, or_false, false_or, ↓reduceIte, if_true, if_false, eq_self, shO, clN, inN, linS, nI_add, S34T, S27T, s46, i46, r2, r3, r4, bI_0, c1', r5', c2', c2'', not_true_eq_false, not_false_eq_true, and_true, true_and, and_false, false_and, and_self, or_true, true_or, or_false, false_or, ↓reduceIte, if_true, if_false, eq_self]
      exact hq
  · have c1' : ¬ nI (tK T a) = 2 := fun y => c1 ((nI_eq (b := 2) (by omega) (by omega)).mp y)
    have e : nF T a lo hi = 1 := by unfold nF; rw [if_neg c1]
    have hq := hqf (by omega)
    rw [e] at hq
    refine tri_wp (T := TT [(34, S34T G), (27, S27T G), (46, S46)]) (ls := [.ref 5, .int (nI lo), .int (nI hi)]) (TTc (fun as m Q h => h) (TTc (fun as m Q h => h) (TTc t46 TTn))) c47 (by decide +kernel) (rt0 := some .boolean) rfl rfl (Nat.le_of_ble_eq_true rfl) rfl ?_
    simp (disch := omega) only [i47, wp_iinc, wpE0, wpE1, wpE2, wpE3, wpE4, wpE5, wpJ, okS, lt4S, popR, litS, Int32.reduceLT, Int32.reduceLE, List.getElem?_cons_zero, List.getElem?_cons_succ, Bool.false_eq_true, ↓reduceIte, Nat.reduceMod, Nat.reduceDiv, Nat.reduceAdd, Nat.reduceSub, Nat.reduceMul, Nat.reduceLeDiff, Nat.reduceEqDiff, Nat.reduceBEq, Int.reduceToNat, Int.reduceAdd, Int32.reduceOfInt, Int64.reduceOfInt, Int32.reduceToNatClampNeg, Int32.reduceOfNat, Bool.or_self, Bool.or_false, Bool.false_or, Bool.true_or, Bool.or_true, true_and, and_true, false_and, and_false, List.set_cons_zero, List.set_cons_succ, List.take_succ_cons, List.take_zero, List.drop_succ_cons, List.drop_zero, List.reverse_cons, List.reverse_nil, List.nil_append, List.cons_append, List.length_cons, List.length_nil, Option.toList_some, Option.toList_none, not_true_eq_false, not_false_eq_true, forall_const, true_implies, false_implies, nrw, TTS, shO, sh7L, and01, bI_0, bI_and, isCl, isRl, cmpS, toLS, toL_le, toL_lt, i2lS, inM, Int64.reduceLE, Int64.reduceLT, xa_1, xa_2, xa_xa, upd_at, updU, Nat.reduceEqDiff, ↓reduceIte, not_true_eq_false, not_false_eq_true, and_true, true_and, and_false, false_and, and_self, or_true, true_or, or_false, false_or, ↓reduceIte, if_true, if_false, eq_self, shO, clN, inN, linS, nI_add, S34T, S27T, s46, i46, r2, r3, r4, bI_0, c1', not_true_eq_false, not_false_eq_true, and_true, true_and, and_false, false_and, and_self, or_true, true_or, or_false, false_or, ↓reduceIte, if_true, if_false, eq_self]
    exact hq


theorem t48x {G : xG} {m : xM} {Q : xQt} {T : Tp} {a : Nat} (hT : tpC T m) (ha : a ≤ T.2) (hr : rOK T (m.1 5) a) (hqf : ¬ tK T a = 3 → Q (some (.int 0)) (xa m 5 (upd (upd (m.1 5) 7 1) 8 (nI (tS T a))))) (hqk : tK T a = 3 → ∀ c', rOK T c' (tE T a) → (∀ q, (q < 2 ∨ 5 < q) → c' q = m.1 5 q) → Q (some (.int 1)) (xa m 5 c')) : Tri G 48 [.ref 5] m Q := by
  obtain ⟨r2, r3, r4, r5⟩ := hr
  obtain ⟨eb1, eb2⟩ := tE_b ha
  have k4 := tK_4 T a
  have hT2 := hT.2.1
  by_cases c1 : tK T a = 3
  · have c1' : nI (tK T a) = 3 := by rw [c1]; rfl
    refine tri_wp (T := TT [(34, S34T G), (27, S27T G), (46, S46)]) (ls := [.ref 5]) (TTc (fun as m Q h => h) (TTc (fun as m Q h => h) (TTc t46 TTn))) c48 (by decide +kernel) (rt0 := some .boolean) rfl rfl (Nat.le_of_ble_eq_true rfl) rfl ?_
    simp (disch := omega) only [i48, wp_iinc, wpE0, wpE1, wpE2, wpE3, wpE4, wpE5, wpJ, okS, lt4S, popR, litS, Int32.reduceLT, Int32.reduceLE, List.getElem?_cons_zero, List.getElem?_cons_succ, Bool.false_eq_true, ↓reduceIte, Nat.reduceMod, Nat.reduceDiv, Nat.reduceAdd, Nat.reduceSub, Nat.reduceMul, Nat.reduceLeDiff, Nat.reduceEqDiff, Nat.reduceBEq, Int.reduceToNat, Int.reduceAdd, Int32.reduceOfInt, Int64.reduceOfInt, Int32.reduceToNatClampNeg, Int32.reduceOfNat, Bool.or_self, Bool.or_false, Bool.false_or, Bool.true_or, Bool.or_true, true_and, and_true, false_and, and_false, List.set_cons_zero, List.set_cons_succ, List.take_succ_cons, List.take_zero, List.drop_succ_cons, List.drop_zero, List.reverse_cons, List.reverse_nil, List.nil_append, List.cons_append, List.length_cons, List.length_nil, Option.toList_some, Option.toList_none, not_true_eq_false, not_false_eq_true, forall_const, true_implies, false_implies, nrw, TTS, shO, sh7L, and01, bI_0, bI_and, isCl, isRl, cmpS, toLS, toL_le, toL_lt, i2lS, inM, Int64.reduceLE, Int64.reduceLT, xa_1, xa_2, xa_xa, upd_at, updU, Nat.reduceEqDiff, ↓reduceIte, not_true_eq_false, not_false_eq_true, and_true, true_and, and_false, false_and, and_self, or_true, true_or, or_false, false_or, ↓reduceIte, if_true, if_false, eq_self, shO, clN, inN, linS, nI_add, S34T, S27T, s46, i46, r2, r3, r4, bI_0, c1', not_true_eq_false, not_false_eq_true, and_true, true_and, and_false, false_and, and_self, or_true, true_or, or_false, false_or, ↓reduceIte, if_true, if_false, eq_self]
    refine t27x (T := T) (a := tE T a) hT eb2 r2 (fun c' h1 h2 => ?_)
    simp (disch := omega) only [wp_iinc, wpE0, wpE1, wpE2, wpE3, wpE4, wpE5, wpJ, okS, lt4S, popR, litS, Int32.reduceLT, Int32.reduceLE, List.getElem?_cons_zero, List.getElem?_cons_succ, Bool.false_eq_true, ↓reduceIte, Nat.reduceMod, Nat.reduceDiv, Nat.reduceAdd, Nat.reduceSub, Nat.reduceMul, Nat.reduceLeDiff, Nat.reduceEqDiff, Nat.reduceBEq, Int.reduceToNat, Int.reduceAdd, Int32.reduceOfInt, Int64.reduceOfInt, Int32.reduceToNatClampNeg, Int32.reduceOfNat, Bool.or_self, Bool.or_false, Bool.false_or, Bool.true_or, Bool.or_true, true_and, and_true, false_and, and_false, List.set_cons_zero, List.set_cons_succ, List.take_succ_cons, List.take_zero, List.drop_succ_cons, List.drop_zero, List.reverse_cons, List.reverse_nil, List.nil_append, List.cons_append, List.length_cons, List.length_nil, Option.toList_some, Option.toList_none, not_true_eq_false, not_false_eq_true, forall_const, true_implies, false_implies, nrw, TTS, shO, sh7L, and01, bI_0, bI_and, isCl, isRl, cmpS, toLS, toL_le, toL_lt, i2lS, inM, Int64.reduceLE, Int64.reduceLT, xa_1, xa_2, xa_xa, upd_at, updU, Nat.reduceEqDiff, ↓reduceIte, not_true_eq_false, not_false_eq_true, and_true, true_and, and_false, false_and, and_self, or_true, true_or, or_false, false_or, ↓reduceIte, if_true, if_false, eq_self, shO, clN, inN, linS, nI_add, S34T, S27T, s46, i46, r2, r3, r4, bI_0, not_true_eq_false, not_false_eq_true, and_true, true_and, and_false, false_and, and_self, or_true, true_or, or_false, false_or, ↓reduceIte, if_true, if_false, eq_self]
    exact hqk c1 c' h1 h2
  · have c1' : ¬ nI (tK T a) = 3 := fun y => c1 ((nI_eq (b := 3) (by omega) (by omega)).mp y)
    refine tri_wp (T := TT [(34, S34T G), (27, S27T G), (46, S46)]) (ls := [.ref 5]) (TTc (fun as m Q h => h) (TTc (fun as m Q h => h) (TTc t46 TTn))) c48 (by decide +kernel) (rt0 := some .boolean) rfl rfl (Nat.le_of_ble_eq_true rfl) rfl ?_
    simp (disch := omega) only [i48, wp_iinc, wpE0, wpE1, wpE2, wpE3, wpE4, wpE5, wpJ, okS, lt4S, popR, litS, Int32.reduceLT, Int32.reduceLE, List.getElem?_cons_zero, List.getElem?_cons_succ, Bool.false_eq_true, ↓reduceIte, Nat.reduceMod, Nat.reduceDiv, Nat.reduceAdd, Nat.reduceSub, Nat.reduceMul, Nat.reduceLeDiff, Nat.reduceEqDiff, Nat.reduceBEq, Int.reduceToNat, Int.reduceAdd, Int32.reduceOfInt, Int64.reduceOfInt, Int32.reduceToNatClampNeg, Int32.reduceOfNat, Bool.or_self, Bool.or_false, Bool.false_or, Bool.true_or, Bool.or_true, true_and, and_true, false_and, and_false, List.set_cons_zero, List.set_cons_succ, List.take_succ_cons, List.take_zero, List.drop_succ_cons, List.drop_zero, List.reverse_cons, List.reverse_nil, List.nil_append, List.cons_append, List.length_cons, List.length_nil, Option.toList_some, Option.toList_none, not_true_eq_false, not_false_eq_true, forall_const, true_implies, false_implies, nrw, TTS, shO, sh7L, and01, bI_0, bI_and, isCl, isRl, cmpS, toLS, toL_le, toL_lt, i2lS, inM, Int64.reduceLE, Int64.reduceLT, xa_1, xa_2, xa_xa, upd_at, updU, Nat.reduceEqDiff, ↓reduceIte, not_true_eq_false, not_false_eq_true, and_true, true_and, and_false, false_and, and_self, or_true, true_or, or_false, false_or, ↓reduceIte, if_true, if_false, eq_self, shO, clN, inN, linS, nI_add, S34T, S27T, s46, i46, r2, r3, r4, bI_0, c1', not_true_eq_false, not_false_eq_true, and_true, true_and, and_false, false_and, and_self, or_true, true_or, or_false, false_or, ↓reduceIte, if_true, if_false, eq_self]
    exact hqf c1


abbrev PR : Type := (Nat × Nat) ⊕ (KK × Nat)
def sM (T : Tp) (a : Nat) : Nat := if tW T a 1 then tE T a else a
def pSea (T : Tp) (k : KK) (a : Nat) : PR :=
  if ¬ tW T a 0 then .inl (1, tS T a)
  else if ¬ nF T (tE T a) 0 30 = 0 then .inl (nF T (tE T a) 0 30, tS T (tE T a))
  else if ¬ nF T (tE T (tE T a)) 0 40 = 0 then .inl (nF T (tE T (tE T a)) 0 40, tS T (tE T (tE T a)))
  else if ¬ tK T (sM T (tE T (tE T (tE T a)))) = 3 then .inl (1, tS T (sM T (tE T (tE T (tE T a)))))
  else .inr ((nI (tV T (tE T a)), nI (tV T (tE T (tE T a))), (if tW T (tE T (tE T (tE T a))) 1 then 1 else 0), k.2.2.2), tE T (sM T (tE T (tE T (tE T a)))))
def kB (k : KK) (v1 v2 v3 v4 : Int32) : KK := (k.1, k.2.1, k.2.2.1, kNb k + 1, kNh k, upd (kBe k) (ix (kNb k)) v1, upd (kSa k) (ix (kNb k)) v2, upd (kAi k) (ix (kNb k)) v3, upd (kFl k) (ix (kNb k)) v4, kBo k, kWe k, kLa k)
def kH (k : KK) (v1 v2 v3 : Int32) : KK := (k.1, k.2.1, k.2.2.1, kNb k, kNh k + 1, kBe k, kSa k, kAi k, kFl k, upd (kBo k) (ix (kNh k)) v1, upd (kWe k) (ix (kNh k)) v2, upd (kLa k) (ix (kNh k)) v3)
/-- a boat, behind its word -/
def pBoat (T : Tp) (k : KK) (a : Nat) : PR :=
  if kNb k = 6 then .inl (3, tS T a)
  else if ¬ nF T (tE T a) 1 30 = 0 then .inl (nF T (tE T a) 1 30, tS T (tE T a))
  else if ¬ nF T (tE T (tE T a)) 1 30 = 0 then .inl (nF T (tE T (tE T a)) 1 30, tS T (tE T (tE T a)))
  else if ¬ nF T (tE T (tE T (tE T a))) 0 9 = 0 then .inl (nF T (tE T (tE T (tE T a))) 0 9, tS T (tE T (tE T (tE T a))))
  else if ¬ nF T (tE T (tE T (tE T (tE T a)))) 0 20 = 0 then .inl (nF T (tE T (tE T (tE T (tE T a)))) 0 20, tS T (tE T (tE T (tE T (tE T a)))))
  else if ¬ tK T (tE T (tE T (tE T (tE T (tE T a))))) = 3 then .inl (1, tS T (tE T (tE T (tE T (tE T (tE T a))))))
  else .inr (kB k (nI (tV T (tE T a))) (nI (tV T (tE T (tE T a)))) (nI (tV T (tE T (tE T (tE T a))))) (nI (tV T (tE T (tE T (tE T (tE T a)))))), tE T (tE T (tE T (tE T (tE T (tE T a))))))
def crw (k : KK) (v : Int32) : Nat := cnt (fun h => kBo k h = v) (ix (kNh k))
def pHand (T : Tp) (k : KK) (a : Nat) : PR :=
  if kNh k = 12 then .inl (3, tS T a)
  else if ¬ nF T (tE T a) 0 (ix (kNb k) - 1) = 0 then .inl (nF T (tE T a) 0 (ix (kNb k) - 1), tS T (tE T a))
  else if 4 ≤ crw k (nI (tV T (tE T a))) then .inl (3, tS T (tE T a))
  else if ¬ nF T (tE T (tE T a)) 20 150 = 0 then .inl (nF T (tE T (tE T a)) 20 150, tS T (tE T (tE T a)))
  else if ¬ nF T (tE T (tE T (tE T a))) 1 60 = 0 then .inl (nF T (tE T (tE T (tE T a))) 1 60, tS T (tE T (tE T (tE T a))))
  else if ¬ tK T (tE T (tE T (tE T (tE T a)))) = 3 then .inl (1, tS T (tE T (tE T (tE T (tE T a)))))
  else .inr (kH k (nI (tV T (tE T a))) (nI (tV T (tE T (tE T a)))) (nI (tV T (tE T (tE T (tE T a))))), tE T (tE T (tE T (tE T (tE T a)))))
/-- the hands: n more may be tried -/
def pHs (T : Tp) : Nat → KK → Nat → PR
  | 0, k, a => .inr (k, a)
  | n + 1, k, a => if tK T a = 0 then .inr (k, a) else if ¬ tW T a 3 then .inl (1, tS T a) else match pHand T k a with
    | .inl x => .inl x
    | .inr x => pHs T n x.1 x.2
def pBs (T : Tp) : Nat → Bool → KK → Nat → PR
  | 0, _, k, a => pHs T 13 k a
  | n + 1, fst, k, a => if ¬ tW T a 2 then (if fst = true then .inl (1, tS T a) else pHs T 13 k a) else match pBoat T k a with
    | .inl x => .inl x
    | .inr x => pBs T n false x.1 x.2
def pAll (T : Tp) (k : KK) : PR := match pSea T k 0 with
  | .inl x => .inl x
  | .inr x => pBs T 7 true x.1 x.2
theorem nF_ok {T : Tp} {a lo hi : Nat} (h : nF T a lo hi = 0) : tK T a = 2 ∧ lo ≤ tV T a ∧ tV T a ≤ hi ∧ tV T a ≤ 999 := by
  unfold nF at h
  by_cases c1 : tK T a = 2
  · rw [if_pos c1] at h
    by_cases c2 : lo ≤ tV T a ∧ tV T a ≤ hi
    · exact ⟨c1, c2.1, c2.2, tV_b c1⟩
    · rw [if_neg c2] at h; omega
  · rw [if_neg c1] at h; omega
theorem nF_bt {T : Tp} {a lo hi : Nat} (h : nF T a lo hi = 0) : bt (nI (tV T a)) lo hi := by
  obtain ⟨h1, h2, h3, h4⟩ := nF_ok h
  have e := nI_toInt (n := tV T a) (by omega)
  exact ⟨by omega, by omega⟩
theorem vk_boat {k : KK} {v1 v2 v3 v4 : Int32} (hk : VKK k) (hn : ¬ kNb k = 6) (h1 : bt v1 1 30) (h2 : bt v2 1 30) (h3 : bt v3 0 9) (h4 : bt v4 0 20) : VKK (kB k v1 v2 v3 v4) := by
  obtain ⟨⟨a1, a2, a3, a4, a5⟩, a6, a7, a8⟩ := hk
  obtain ⟨n6, en⟩ := ix_b (n := 6) (by decide) a4
  generalize ix (kNb k) = nb at *
  have n5 : nb < 6 := by
    rcases Nat.lt_or_ge nb 6 with y | y
    · exact y
    · exact absurd (en.trans (by rw [show nb = 6 by omega]; rfl)) hn
  have e1 : kNb (kB k v1 v2 v3 v4) = nI (nb + 1) := by
    show kNb k + 1 = _
    rw [en, nI_1]
  have ei : ix (kNb k) = nb := by rw [en]; exact ix_nI (by omega)
  refine ⟨⟨a1, a2, a3, ?_, a5⟩, fun b hb => ?_, fun h hh => ?_, a8⟩
  · rw [e1]; exact b_nI (u := 6) (by omega) (by decide)
  · rw [e1, ix_nI (by omega)] at hb
    show bt (upd (kBe k) (ix (kNb k)) v1 b) 1 30 ∧ bt (upd (kSa k) (ix (kNb k)) v2 b) 1 30 ∧ bt (upd (kAi k) (ix (kNb k)) v3 b) 0 9 ∧ bt (upd (kFl k) (ix (kNb k)) v4 b) 0 20
    rw [ei]
    by_cases e : b = nb
    · rw [upd_eq e, upd_eq e, upd_eq e, upd_eq e]; exact ⟨h1, h2, h3, h4⟩
    · rw [upd_ne e, upd_ne e, upd_ne e, upd_ne e]; exact a6 b (by rw [ei]; omega)
  · obtain ⟨⟨c1, c2⟩, c3⟩ := a7 h hh
    refine ⟨⟨c1, ?_⟩, c3⟩
    rw [e1, nI_toInt (by omega)]
    have : (kNb k).toInt = nb := by rw [en]; exact nI_toInt (by omega)
    have c2 : (kBo k h).toInt < (kNb k).toInt := c2
    show (kBo k h).toInt < _
    omega
theorem vk_hand {k : KK} {v1 v2 v3 : Int32} (hk : VKK k) (hn : ¬ kNh k = 12) (h1 : 0 ≤ v1.toInt ∧ v1.toInt < (kNb k).toInt) (hc : ¬ 4 ≤ crw k v1) (h2 : bt v2 20 150) (h3 : bt v3 1 60) : VKK (kH k v1 v2 v3) := by
  obtain ⟨⟨a1, a2, a3, a4, a5⟩, a6, a7, a8⟩ := hk
  obtain ⟨n6, en⟩ := ix_b (n := 12) (by decide) a5
  unfold crw at hc
  have a8 : ∀ b : Int32, cnt (fun h => kBo k h = b) (ix (kNh k)) ≤ 4 := a8
  generalize ix (kNh k) = nh at *
  have n5 : nh < 12 := by
    rcases Nat.lt_or_ge nh 12 with y | y
    · exact y
    · exact absurd (en.trans (by rw [show nh = 12 by omega]; rfl)) hn
  have e1 : kNh (kH k v1 v2 v3) = nI (nh + 1) := by
    show kNh k + 1 = _
    rw [en, nI_1]
  have ei : ix (kNh k) = nh := by rw [en]; exact ix_nI (by omega)
  have a7 : ∀ h, h < nh → (0 ≤ (kBo k h).toInt ∧ (kBo k h).toInt < (kNb k).toInt) ∧ bt (kWe k h) 20 150 ∧ bt (kLa k h) 1 60 := fun h hh => a7 h (by rw [ei]; exact hh)
  refine ⟨⟨a1, a2, a3, a4, ?_⟩, a6, fun h hh => ?_, fun b => ?_⟩
  · rw [e1]; exact b_nI (u := 12) (by omega) (by decide)
  · rw [e1, ix_nI (by omega)] at hh
    show (0 ≤ (upd (kBo k) (ix (kNh k)) v1 h).toInt ∧ (upd (kBo k) (ix (kNh k)) v1 h).toInt < (kNb k).toInt) ∧ bt (upd (kWe k) (ix (kNh k)) v2 h) 20 150 ∧ bt (upd (kLa k) (ix (kNh k)) v3 h) 1 60
    rw [ei]
    by_cases e : h = nh
    · rw [upd_eq e, upd_eq e, upd_eq e]; exact ⟨h1, h2, h3⟩
    · rw [upd_ne e, upd_ne e, upd_ne e]; exact a7 h (by omega)
  · rw [e1, ix_nI (by omega)]
    show cnt (fun h => upd (kBo k) (ix (kNh k)) v1 h = b) nh + (if upd (kBo k) (ix (kNh k)) v1 nh = b then 1 else 0) ≤ 4
    rw [ei, cnt_c (p := fun h => upd (kBo k) nh v1 h = b) (q := fun h => kBo k h = b) (fun i hi => by rw [upd_ne (show i ≠ nh by omega)]), upd_eq rfl]
    by_cases e : v1 = b
    · rw [if_pos e, ← e]; omega
    · rw [if_neg e]; exact a8 b

