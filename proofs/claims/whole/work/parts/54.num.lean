theorem ltN : ((1 : Nat) < 4) = True ∧ ((2 : Nat) < 4) = True ∧ ((3 : Nat) < 4) = True ∧ ((1 : Nat) < 5) = True ∧ ((2 : Nat) < 5) = True ∧ ((3 : Nat) < 5) = True ∧ ((4 : Nat) < 5) = True ∧ ((1 : Nat) < 6) = True ∧ ((2 : Nat) < 6) = True ∧ ((3 : Nat) < 6) = True ∧ ((4 : Nat) < 6) = True ∧ ((5 : Nat) < 6) = True ∧ ((1 : Nat) < 8) = True ∧ ((2 : Nat) < 8) = True ∧ ((3 : Nat) < 8) = True ∧ ((4 : Nat) < 8) = True ∧ ((5 : Nat) < 8) = True ∧ ((6 : Nat) < 8) = True ∧ ((7 : Nat) < 8) = True ∧ ((1 : Nat) < 11) = True ∧ ((2 : Nat) < 11) = True ∧ ((3 : Nat) < 11) = True ∧ ((4 : Nat) < 11) = True ∧ ((5 : Nat) < 11) = True ∧ ((6 : Nat) < 11) = True ∧ ((7 : Nat) < 11) = True ∧ ((8 : Nat) < 11) = True ∧ ((9 : Nat) < 11) = True ∧ ((10 : Nat) < 11) = True := by simp
theorem t121x {G : xG} {m : xM} {Q : xQt} {v : Int64} {k : Nat} (hk : k ≤ 100) (h : Q (some (.long (pw v k))) m) : Tri G 121 [.long v, .int (nI k)] m Q := by
  refine tri_vc (ls := [.long v, .null, .int (nI k), .null, .null, .null]) (by decide +kernel) rfl (Nat.le_of_ble_eq_true rfl) ?_
  refine vc_seq (pc1 := 5) (ls1 := [.long v, .null, .int (nI k), .long 1, .null, .int 0]) (m1 := m) (vc_wp (T := TT []) TTn (fun p => p == 5) (rt0 := some .long) rfl c121 rfl ?_) ?_
  · simp (disch := omega) only [i121, wp_iinc, wpE0, wpE1, wpE2, wpE3, wpE4, wpE5, wpJ, okS, lt4S, popR, litS, Int32.reduceLT, Int32.reduceLE, List.getElem?_cons_zero, List.getElem?_cons_succ, Bool.false_eq_true, ↓reduceIte, Nat.reduceMod, Nat.reduceDiv, Nat.reduceAdd, Nat.reduceSub, Nat.reduceMul, Nat.reduceLeDiff, Nat.reduceEqDiff, Nat.reduceBEq, Int.reduceToNat, Int.reduceAdd, Int32.reduceOfInt, Int64.reduceOfInt, Int32.reduceToNatClampNeg, Int32.reduceOfNat, Bool.or_self, Bool.or_false, Bool.false_or, Bool.true_or, Bool.or_true, true_and, and_true, false_and, and_false, List.set_cons_zero, List.set_cons_succ, List.take_succ_cons, List.take_zero, List.drop_succ_cons, List.drop_zero, List.reverse_cons, List.reverse_nil, List.nil_append, List.cons_append, List.length_cons, List.length_nil, Option.toList_some, Option.toList_none, not_true_eq_false, not_false_eq_true, forall_const, true_implies, false_implies, nrw, TTS, litS, and01, cmpS, ltN, subS, not_true_eq_false, not_false_eq_true, and_true, true_and, and_false, false_and, and_self, or_true, true_or, or_false, false_or, ↓reduceIte, if_true, if_false, eq_self]
  refine vc_for k (fun i => [.long v, .null, .int (nI k), .long (pw v i), .null, .int (nI i)]) (fun i => m) (fun i hi => ?_) ?_
  · refine vc_wp (T := TT []) TTn (fun _ => false) (rt0 := some .long) rfl (ckl_drop 4 c121) rfl ?_
    have hi2 : ¬ nI k ≤ nI i := nI_ge hi (by omega)
    simp (disch := omega) only [List.drop, i121, wp_iinc, wpE0, wpE1, wpE2, wpE3, wpE4, wpE5, wpJ, okS, lt4S, popR, litS, Int32.reduceLT, Int32.reduceLE, List.getElem?_cons_zero, List.getElem?_cons_succ, Bool.false_eq_true, ↓reduceIte, Nat.reduceMod, Nat.reduceDiv, Nat.reduceAdd, Nat.reduceSub, Nat.reduceMul, Nat.reduceLeDiff, Nat.reduceEqDiff, Nat.reduceBEq, Int.reduceToNat, Int.reduceAdd, Int32.reduceOfInt, Int64.reduceOfInt, Int32.reduceToNatClampNeg, Int32.reduceOfNat, Bool.or_self, Bool.or_false, Bool.false_or, Bool.true_or, Bool.or_true, true_and, and_true, false_and, and_false, List.set_cons_zero, List.set_cons_succ, List.take_succ_cons, List.take_zero, List.drop_succ_cons, List.drop_zero, List.reverse_cons, List.reverse_nil, List.nil_append, List.cons_append, List.length_cons, List.length_nil, Option.toList_some, Option.toList_none, not_true_eq_false, not_false_eq_true, forall_const, true_implies, false_implies, nrw, TTS, litS, and01, cmpS, ltN, pw, subS, hi2, nI_1, fd, not_true_eq_false, not_false_eq_true, and_true, true_and, and_false, false_and, and_self, or_true, true_or, or_false, false_or, ↓reduceIte, if_true, if_false, eq_self]
  · have hi2 : nI k ≤ nI k := Int32.le_refl _
    refine vc_wp (T := TT []) TTn (fun _ => false) (rt0 := some .long) rfl (ckl_drop 4 c121) rfl ?_
    simp (disch := omega) only [List.drop, i121, wp_iinc, wpE0, wpE1, wpE2, wpE3, wpE4, wpE5, wpJ, okS, lt4S, popR, litS, Int32.reduceLT, Int32.reduceLE, List.getElem?_cons_zero, List.getElem?_cons_succ, Bool.false_eq_true, ↓reduceIte, Nat.reduceMod, Nat.reduceDiv, Nat.reduceAdd, Nat.reduceSub, Nat.reduceMul, Nat.reduceLeDiff, Nat.reduceEqDiff, Nat.reduceBEq, Int.reduceToNat, Int.reduceAdd, Int32.reduceOfInt, Int64.reduceOfInt, Int32.reduceToNatClampNeg, Int32.reduceOfNat, Bool.or_self, Bool.or_false, Bool.false_or, Bool.true_or, Bool.or_true, true_and, and_true, false_and, and_false, List.set_cons_zero, List.set_cons_succ, List.take_succ_cons, List.take_zero, List.drop_succ_cons, List.drop_zero, List.reverse_cons, List.reverse_nil, List.nil_append, List.cons_append, List.length_cons, List.length_nil, Option.toList_some, Option.toList_none, not_true_eq_false, not_false_eq_true, forall_const, true_implies, false_implies, nrw, TTS, litS, and01, cmpS, ltN, hi2, not_true_eq_false, not_false_eq_true, and_true, true_and, and_false, false_and, and_self, or_true, true_or, or_false, false_or, ↓reduceIte, if_true, if_false, eq_self]
    exact h

def S121 (as : List Value) (m : xM) (Q : xQt) : Prop := match as with
  | [.long v, .int n] => (n = nI (ix n) ∧ ix n ≤ 100) ∧ Q (some (.long (pw v (ix n)))) m
  | _ => False
theorem s121 (v : Int64) (n : Int32) (m : xM) (Q : xQt) : S121 [.long v, .int n] m Q = ((n = nI (ix n) ∧ ix n ≤ 100) ∧ Q (some (.long (pw v (ix n)))) m) := rfl
theorem t121 {G : xG} : ∀ as m Q, S121 as m Q → Tri G 121 as m Q := by
  intro as m Q h
  match as, h with
  | [.long v, .int n], h =>
    obtain ⟨⟨h1, h2⟩, h⟩ := h
    rw [h1]
    exact t121x h2 h

theorem t217x {G : xG} {m : xM} {Q : xQt} {v : Int64} {k : Nat} (hk : k ≤ 100) (h : Q (some (.long (pw v k))) m) : Tri G 217 [.long v, .int (nI k)] m Q := by
  refine tri_vc (ls := [.long v, .null, .int (nI k), .null, .null, .null]) (by decide +kernel) rfl (Nat.le_of_ble_eq_true rfl) ?_
  refine vc_seq (pc1 := 5) (ls1 := [.long v, .null, .int (nI k), .long 1, .null, .int 0]) (m1 := m) (vc_wp (T := TT []) TTn (fun p => p == 5) (rt0 := some .long) rfl c217 rfl ?_) ?_
  · simp (disch := omega) only [i217, wp_iinc, wpE0, wpE1, wpE2, wpE3, wpE4, wpE5, wpJ, okS, lt4S, popR, litS, Int32.reduceLT, Int32.reduceLE, List.getElem?_cons_zero, List.getElem?_cons_succ, Bool.false_eq_true, ↓reduceIte, Nat.reduceMod, Nat.reduceDiv, Nat.reduceAdd, Nat.reduceSub, Nat.reduceMul, Nat.reduceLeDiff, Nat.reduceEqDiff, Nat.reduceBEq, Int.reduceToNat, Int.reduceAdd, Int32.reduceOfInt, Int64.reduceOfInt, Int32.reduceToNatClampNeg, Int32.reduceOfNat, Bool.or_self, Bool.or_false, Bool.false_or, Bool.true_or, Bool.or_true, true_and, and_true, false_and, and_false, List.set_cons_zero, List.set_cons_succ, List.take_succ_cons, List.take_zero, List.drop_succ_cons, List.drop_zero, List.reverse_cons, List.reverse_nil, List.nil_append, List.cons_append, List.length_cons, List.length_nil, Option.toList_some, Option.toList_none, not_true_eq_false, not_false_eq_true, forall_const, true_implies, false_implies, nrw, TTS, litS, and01, cmpS, ltN, subS, not_true_eq_false, not_false_eq_true, and_true, true_and, and_false, false_and, and_self, or_true, true_or, or_false, false_or, ↓reduceIte, if_true, if_false, eq_self]
  refine vc_for k (fun i => [.long v, .null, .int (nI k), .long (pw v i), .null, .int (nI i)]) (fun i => m) (fun i hi => ?_) ?_
  · refine vc_wp (T := TT []) TTn (fun _ => false) (rt0 := some .long) rfl (ckl_drop 4 c217) rfl ?_
    have hi2 : ¬ nI k ≤ nI i := nI_ge hi (by omega)
    simp (disch := omega) only [List.drop, i217, wp_iinc, wpE0, wpE1, wpE2, wpE3, wpE4, wpE5, wpJ, okS, lt4S, popR, litS, Int32.reduceLT, Int32.reduceLE, List.getElem?_cons_zero, List.getElem?_cons_succ, Bool.false_eq_true, ↓reduceIte, Nat.reduceMod, Nat.reduceDiv, Nat.reduceAdd, Nat.reduceSub, Nat.reduceMul, Nat.reduceLeDiff, Nat.reduceEqDiff, Nat.reduceBEq, Int.reduceToNat, Int.reduceAdd, Int32.reduceOfInt, Int64.reduceOfInt, Int32.reduceToNatClampNeg, Int32.reduceOfNat, Bool.or_self, Bool.or_false, Bool.false_or, Bool.true_or, Bool.or_true, true_and, and_true, false_and, and_false, List.set_cons_zero, List.set_cons_succ, List.take_succ_cons, List.take_zero, List.drop_succ_cons, List.drop_zero, List.reverse_cons, List.reverse_nil, List.nil_append, List.cons_append, List.length_cons, List.length_nil, Option.toList_some, Option.toList_none, not_true_eq_false, not_false_eq_true, forall_const, true_implies, false_implies, nrw, TTS, litS, and01, cmpS, ltN, pw, subS, hi2, nI_1, fd, not_true_eq_false, not_false_eq_true, and_true, true_and, and_false, false_and, and_self, or_true, true_or, or_false, false_or, ↓reduceIte, if_true, if_false, eq_self]
  · have hi2 : nI k ≤ nI k := Int32.le_refl _
    refine vc_wp (T := TT []) TTn (fun _ => false) (rt0 := some .long) rfl (ckl_drop 4 c217) rfl ?_
    simp (disch := omega) only [List.drop, i217, wp_iinc, wpE0, wpE1, wpE2, wpE3, wpE4, wpE5, wpJ, okS, lt4S, popR, litS, Int32.reduceLT, Int32.reduceLE, List.getElem?_cons_zero, List.getElem?_cons_succ, Bool.false_eq_true, ↓reduceIte, Nat.reduceMod, Nat.reduceDiv, Nat.reduceAdd, Nat.reduceSub, Nat.reduceMul, Nat.reduceLeDiff, Nat.reduceEqDiff, Nat.reduceBEq, Int.reduceToNat, Int.reduceAdd, Int32.reduceOfInt, Int64.reduceOfInt, Int32.reduceToNatClampNeg, Int32.reduceOfNat, Bool.or_self, Bool.or_false, Bool.false_or, Bool.true_or, Bool.or_true, true_and, and_true, false_and, and_false, List.set_cons_zero, List.set_cons_succ, List.take_succ_cons, List.take_zero, List.drop_succ_cons, List.drop_zero, List.reverse_cons, List.reverse_nil, List.nil_append, List.cons_append, List.length_cons, List.length_nil, Option.toList_some, Option.toList_none, not_true_eq_false, not_false_eq_true, forall_const, true_implies, false_implies, nrw, TTS, litS, and01, cmpS, ltN, hi2, not_true_eq_false, not_false_eq_true, and_true, true_and, and_false, false_and, and_self, or_true, true_or, or_false, false_or, ↓reduceIte, if_true, if_false, eq_self]
    exact h

def S217 (as : List Value) (m : xM) (Q : xQt) : Prop := match as with
  | [.long v, .int n] => (n = nI (ix n) ∧ ix n ≤ 100) ∧ Q (some (.long (pw v (ix n)))) m
  | _ => False
theorem s217 (v : Int64) (n : Int32) (m : xM) (Q : xQt) : S217 [.long v, .int n] m Q = ((n = nI (ix n) ∧ ix n ≤ 100) ∧ Q (some (.long (pw v (ix n)))) m) := rfl
theorem t217 {G : xG} : ∀ as m Q, S217 as m Q → Tri G 217 as m Q := by
  intro as m Q h
  match as, h with
  | [.long v, .int n], h =>
    obtain ⟨⟨h1, h2⟩, h⟩ := h
    rw [h1]
    exact t217x h2 h

theorem t120x {G : xG} {m : xM} {Q : xQt} {n k : Nat} (hn : n < 8) (hk : k ≤ n) (h : Q (some (.long (lN (wyN n k)))) m) : Tri G 120 [.int (nI n), .int (nI k)] m Q := by
  refine tri_vc (ls := [.int (nI n), .int (nI k), .null, .null, .null]) (by decide +kernel) rfl (Nat.le_of_ble_eq_true rfl) ?_
  refine vc_seq (pc1 := 5) (ls1 := [.int (nI n), .int (nI k), .long 1, .null, .int 1]) (m1 := m) (vc_wp (T := TT []) TTn (fun p => p == 5) (rt0 := some .long) rfl c120 rfl ?_) ?_
  · simp (disch := omega) only [i120, wp_iinc, wpE0, wpE1, wpE2, wpE3, wpE4, wpE5, wpJ, okS, lt4S, popR, litS, Int32.reduceLT, Int32.reduceLE, List.getElem?_cons_zero, List.getElem?_cons_succ, Bool.false_eq_true, ↓reduceIte, Nat.reduceMod, Nat.reduceDiv, Nat.reduceAdd, Nat.reduceSub, Nat.reduceMul, Nat.reduceLeDiff, Nat.reduceEqDiff, Nat.reduceBEq, Int.reduceToNat, Int.reduceAdd, Int32.reduceOfInt, Int64.reduceOfInt, Int32.reduceToNatClampNeg, Int32.reduceOfNat, Bool.or_self, Bool.or_false, Bool.false_or, Bool.true_or, Bool.or_true, true_and, and_true, false_and, and_false, List.set_cons_zero, List.set_cons_succ, List.take_succ_cons, List.take_zero, List.drop_succ_cons, List.drop_zero, List.reverse_cons, List.reverse_nil, List.nil_append, List.cons_append, List.length_cons, List.length_nil, Option.toList_some, Option.toList_none, not_true_eq_false, not_false_eq_true, forall_const, true_implies, false_implies, nrw, TTS, litS, and01, cmpS, ltN, subS, not_true_eq_false, not_false_eq_true, and_true, true_and, and_false, false_and, and_self, or_true, true_or, or_false, false_or, ↓reduceIte, if_true, if_false, eq_self]
  refine vc_for k (fun i => [.int (nI n), .int (nI k), .long (lN (wyN n i)), .null, .int (nI (i + 1))]) (fun i => m) (fun i hi => ?_) ?_
  · refine vc_wp (T := TT []) TTn (fun _ => false) (rt0 := some .long) rfl (ckl_drop 4 c120) rfl ?_
    have hi2 : ¬ nI k < nI (i + 1) := nI_nlt (by omega) (by omega)
    have hz := nz_l (i := i + 1) (by omega) (by omega)
    have hs := ways_st (n := n) (i := i) hn (by omega)
    simp (disch := omega) only [List.drop, i120, wp_iinc, wpE0, wpE1, wpE2, wpE3, wpE4, wpE5, wpJ, okS, lt4S, popR, litS, Int32.reduceLT, Int32.reduceLE, List.getElem?_cons_zero, List.getElem?_cons_succ, Bool.false_eq_true, ↓reduceIte, Nat.reduceMod, Nat.reduceDiv, Nat.reduceAdd, Nat.reduceSub, Nat.reduceMul, Nat.reduceLeDiff, Nat.reduceEqDiff, Nat.reduceBEq, Int.reduceToNat, Int.reduceAdd, Int32.reduceOfInt, Int64.reduceOfInt, Int32.reduceToNatClampNeg, Int32.reduceOfNat, Bool.or_self, Bool.or_false, Bool.false_or, Bool.true_or, Bool.or_true, true_and, and_true, false_and, and_false, List.set_cons_zero, List.set_cons_succ, List.take_succ_cons, List.take_zero, List.drop_succ_cons, List.drop_zero, List.reverse_cons, List.reverse_nil, List.nil_append, List.cons_append, List.length_cons, List.length_nil, Option.toList_some, Option.toList_none, not_true_eq_false, not_false_eq_true, forall_const, true_implies, false_implies, nrw, TTS, litS, and01, cmpS, ltN, hz, hs, subS, hi2, nI_1, fd, not_true_eq_false, not_false_eq_true, and_true, true_and, and_false, false_and, and_self, or_true, true_or, or_false, false_or, ↓reduceIte, if_true, if_false, eq_self]
  · have hi2 : nI k < nI (k + 1) := nI_lt (by omega) (by omega)
    refine vc_wp (T := TT []) TTn (fun _ => false) (rt0 := some .long) rfl (ckl_drop 4 c120) rfl ?_
    simp (disch := omega) only [List.drop, i120, wp_iinc, wpE0, wpE1, wpE2, wpE3, wpE4, wpE5, wpJ, okS, lt4S, popR, litS, Int32.reduceLT, Int32.reduceLE, List.getElem?_cons_zero, List.getElem?_cons_succ, Bool.false_eq_true, ↓reduceIte, Nat.reduceMod, Nat.reduceDiv, Nat.reduceAdd, Nat.reduceSub, Nat.reduceMul, Nat.reduceLeDiff, Nat.reduceEqDiff, Nat.reduceBEq, Int.reduceToNat, Int.reduceAdd, Int32.reduceOfInt, Int64.reduceOfInt, Int32.reduceToNatClampNeg, Int32.reduceOfNat, Bool.or_self, Bool.or_false, Bool.false_or, Bool.true_or, Bool.or_true, true_and, and_true, false_and, and_false, List.set_cons_zero, List.set_cons_succ, List.take_succ_cons, List.take_zero, List.drop_succ_cons, List.drop_zero, List.reverse_cons, List.reverse_nil, List.nil_append, List.cons_append, List.length_cons, List.length_nil, Option.toList_some, Option.toList_none, not_true_eq_false, not_false_eq_true, forall_const, true_implies, false_implies, nrw, TTS, litS, and01, cmpS, ltN, hi2, not_true_eq_false, not_false_eq_true, and_true, true_and, and_false, false_and, and_self, or_true, true_or, or_false, false_or, ↓reduceIte, if_true, if_false, eq_self]
    exact h

def S120 (as : List Value) (m : xM) (Q : xQt) : Prop := match as with
  | [.int a, .int a2] => (a = nI (ix a) ∧ a2 = nI (ix a2)) ∧ ix a < 8 ∧ ix a2 ≤ ix a ∧ Q (some (.long (lN (wyN (ix a) (ix a2))))) m
  | _ => False
theorem s120 (a : Int32) (a2 : Int32) (m : xM) (Q : xQt) : S120 [.int a, .int a2] m Q = ((a = nI (ix a) ∧ a2 = nI (ix a2)) ∧ ix a < 8 ∧ ix a2 ≤ ix a ∧ Q (some (.long (lN (wyN (ix a) (ix a2))))) m) := rfl
theorem t120 {G : xG} : ∀ as m Q, S120 as m Q → Tri G 120 as m Q := by
  intro as m Q h
  match as, h with
  | [.int a, .int a2], h =>
    obtain ⟨⟨h1, h2⟩, h3, h4, h⟩ := h
    rw [h1, h2]
    exact t120x h3 h4 h

theorem t119x {G : xG} {m : xM} {Q : xQt} {n p r : Nat} (hn : n < 8) (hp : p ≤ 100) (hr : r < 8) (h : Q (some (.long (lN (sN n p (100 - p) r (n - r))))) m) : Tri G 119 [.int (nI n), .int (nI p), .int (nI r)] m Q := by
  have eq1 : (100 : Int32) - nI p = nI (100 - p) := nI_sub (a := 100) hp
  have eq2 : (nI p).toInt64 = lN p := nI_l (by omega)
  have eq3 : (nI (100 - p)).toInt64 = lN (100 - p) := nI_l (by omega)
  refine tri_vc (ls := [.int (nI n), .int (nI p), .int (nI r), .null, .null, .null]) (by decide +kernel) rfl (Nat.le_of_ble_eq_true rfl) ?_
  refine vc_seq (pc1 := 7) (ls1 := [.int (nI n), .int (nI p), .int (nI r), .long 0, .null, .int (nI (r + 1))]) (m1 := m) (vc_wp (T := TT [(120, S120), (121, S121)]) (TTc t120 (TTc t121 TTn)) (fun p => p == 7) (rt0 := some .long) rfl c119 rfl ?_) ?_
  · simp (disch := omega) only [i119, wp_iinc, wpE0, wpE1, wpE2, wpE3, wpE4, wpE5, wpJ, okS, lt4S, popR, litS, Int32.reduceLT, Int32.reduceLE, List.getElem?_cons_zero, List.getElem?_cons_succ, Bool.false_eq_true, ↓reduceIte, Nat.reduceMod, Nat.reduceDiv, Nat.reduceAdd, Nat.reduceSub, Nat.reduceMul, Nat.reduceLeDiff, Nat.reduceEqDiff, Nat.reduceBEq, Int.reduceToNat, Int.reduceAdd, Int32.reduceOfInt, Int64.reduceOfInt, Int32.reduceToNatClampNeg, Int32.reduceOfNat, Bool.or_self, Bool.or_false, Bool.false_or, Bool.true_or, Bool.or_true, true_and, and_true, false_and, and_false, List.set_cons_zero, List.set_cons_succ, List.take_succ_cons, List.take_zero, List.drop_succ_cons, List.drop_zero, List.reverse_cons, List.reverse_nil, List.nil_append, List.cons_append, List.length_cons, List.length_nil, Option.toList_some, Option.toList_none, not_true_eq_false, not_false_eq_true, forall_const, true_implies, false_implies, nrw, TTS, s120, s121, clN, litS, and01, cmpS, ltN, nI_1, subS, not_true_eq_false, not_false_eq_true, and_true, true_and, and_false, false_and, and_self, or_true, true_or, or_false, false_or, ↓reduceIte, if_true, if_false, eq_self]
  refine vc_for (n - r) (fun i => [.int (nI n), .int (nI p), .int (nI r), .long (lN (sN n p (100 - p) r i)), .null, .int (nI (r + 1 + i))]) (fun i => m) (fun i hi => ?_) ?_
  · refine vc_wp (T := TT [(120, S120), (121, S121)]) (TTc t120 (TTc t121 TTn)) (fun _ => false) (rt0 := some .long) rfl (ckl_drop 6 c119) rfl ?_
    have hi2 : ¬ nI n < nI (r + 1 + i) := nI_nlt (by omega) (by omega)
    have e4 : nI n - nI (r + 1 + i) = nI (n - (r + 1 + i)) := nI_sub (by omega)
    have hx1 : r + 1 + i ≤ n := by omega
    have hx2 : r + 1 + i ≤ 100 := by omega
    have hx3 : n - (r + 1 + i) ≤ 100 := by omega
    simp (disch := omega) only [List.drop, i119, wp_iinc, wpE0, wpE1, wpE2, wpE3, wpE4, wpE5, wpJ, okS, lt4S, popR, litS, Int32.reduceLT, Int32.reduceLE, List.getElem?_cons_zero, List.getElem?_cons_succ, Bool.false_eq_true, ↓reduceIte, Nat.reduceMod, Nat.reduceDiv, Nat.reduceAdd, Nat.reduceSub, Nat.reduceMul, Nat.reduceLeDiff, Nat.reduceEqDiff, Nat.reduceBEq, Int.reduceToNat, Int.reduceAdd, Int32.reduceOfInt, Int64.reduceOfInt, Int32.reduceToNatClampNeg, Int32.reduceOfNat, Bool.or_self, Bool.or_false, Bool.false_or, Bool.true_or, Bool.or_true, true_and, and_true, false_and, and_false, List.set_cons_zero, List.set_cons_succ, List.take_succ_cons, List.take_zero, List.drop_succ_cons, List.drop_zero, List.reverse_cons, List.reverse_nil, List.nil_append, List.cons_append, List.length_cons, List.length_nil, Option.toList_some, Option.toList_none, not_true_eq_false, not_false_eq_true, forall_const, true_implies, false_implies, nrw, TTS, s120, s121, clN, litS, and01, cmpS, ltN, eq1, eq2, eq3, e4, pw_lN, lN_mul, lN_add, hn, hx1, hx2, hx3, sN, nI_sub, show r + 1 + (i + 1) = r + 1 + i + 1 from rfl, subS, hi2, nI_1, fd, not_true_eq_false, not_false_eq_true, and_true, true_and, and_false, false_and, and_self, or_true, true_or, or_false, false_or, ↓reduceIte, if_true, if_false, eq_self]
  · have hi2 : nI n < nI (r + 1 + (n - r)) := nI_lt (by omega) (by omega)
    refine vc_wp (T := TT [(120, S120), (121, S121)]) (TTc t120 (TTc t121 TTn)) (fun _ => false) (rt0 := some .long) rfl (ckl_drop 6 c119) rfl ?_
    simp (disch := omega) only [List.drop, i119, wp_iinc, wpE0, wpE1, wpE2, wpE3, wpE4, wpE5, wpJ, okS, lt4S, popR, litS, Int32.reduceLT, Int32.reduceLE, List.getElem?_cons_zero, List.getElem?_cons_succ, Bool.false_eq_true, ↓reduceIte, Nat.reduceMod, Nat.reduceDiv, Nat.reduceAdd, Nat.reduceSub, Nat.reduceMul, Nat.reduceLeDiff, Nat.reduceEqDiff, Nat.reduceBEq, Int.reduceToNat, Int.reduceAdd, Int32.reduceOfInt, Int64.reduceOfInt, Int32.reduceToNatClampNeg, Int32.reduceOfNat, Bool.or_self, Bool.or_false, Bool.false_or, Bool.true_or, Bool.or_true, true_and, and_true, false_and, and_false, List.set_cons_zero, List.set_cons_succ, List.take_succ_cons, List.take_zero, List.drop_succ_cons, List.drop_zero, List.reverse_cons, List.reverse_nil, List.nil_append, List.cons_append, List.length_cons, List.length_nil, Option.toList_some, Option.toList_none, not_true_eq_false, not_false_eq_true, forall_const, true_implies, false_implies, nrw, TTS, s120, s121, clN, litS, and01, cmpS, ltN, hi2, not_true_eq_false, not_false_eq_true, and_true, true_and, and_false, false_and, and_self, or_true, true_or, or_false, false_or, ↓reduceIte, if_true, if_false, eq_self]
    exact h

def S119 (as : List Value) (m : xM) (Q : xQt) : Prop := match as with
  | [.int a, .int a2, .int a3] => (a = nI (ix a) ∧ a2 = nI (ix a2) ∧ a3 = nI (ix a3)) ∧ ix a < 8 ∧ ix a2 ≤ 100 ∧ ix a3 < 8 ∧ Q (some (.long (lN (sN (ix a) (ix a2) (100 - ix a2) (ix a3) (ix a - ix a3))))) m
  | _ => False
theorem s119 (a : Int32) (a2 : Int32) (a3 : Int32) (m : xM) (Q : xQt) : S119 [.int a, .int a2, .int a3] m Q = ((a = nI (ix a) ∧ a2 = nI (ix a2) ∧ a3 = nI (ix a3)) ∧ ix a < 8 ∧ ix a2 ≤ 100 ∧ ix a3 < 8 ∧ Q (some (.long (lN (sN (ix a) (ix a2) (100 - ix a2) (ix a3) (ix a - ix a3))))) m) := rfl
theorem t119 {G : xG} : ∀ as m Q, S119 as m Q → Tri G 119 as m Q := by
  intro as m Q h
  match as, h with
  | [.int a, .int a2, .int a3], h =>
    obtain ⟨⟨h1, h2, h3⟩, h4, h5, h6, h⟩ := h
    rw [h1, h2, h3]
    exact t119x h4 h5 h6 h

theorem t216x {G : xG} {m : xM} {Q : xQt} {n p r : Nat} (hn : n < 8) (hp : p ≤ 100) (hr : r < 8) (h : Q (some (.long (lN (mN n p (100 - p) r (n + 1))))) m) : Tri G 216 [.int (nI n), .int (nI p), .int (nI r)] m Q := by
  have eq2 : (nI p).toInt64 = lN p := nI_l (by omega)
  have eq3 : (100 : Int64) - lN p = lN (100 - p) := lN_sub (a := 100) hp
  refine tri_vc (ls := [.int (nI n), .int (nI p), .int (nI r), .null, .null, .null, .null, .null]) (by decide +kernel) rfl (Nat.le_of_ble_eq_true rfl) ?_
  refine vc_seq (pc1 := 8) (ls1 := [.int (nI n), .int (nI p), .int (nI r), .long 0, .null, .long 1, .null, .int 0]) (m1 := m) (vc_wp (T := TT [(217, S217)]) (TTc t217 TTn) (fun p => p == 8) (rt0 := some .long) rfl c216 rfl ?_) ?_
  · simp (disch := omega) only [i216, wp_iinc, wpE0, wpE1, wpE2, wpE3, wpE4, wpE5, wpJ, okS, lt4S, popR, litS, Int32.reduceLT, Int32.reduceLE, List.getElem?_cons_zero, List.getElem?_cons_succ, Bool.false_eq_true, ↓reduceIte, Nat.reduceMod, Nat.reduceDiv, Nat.reduceAdd, Nat.reduceSub, Nat.reduceMul, Nat.reduceLeDiff, Nat.reduceEqDiff, Nat.reduceBEq, Int.reduceToNat, Int.reduceAdd, Int32.reduceOfInt, Int64.reduceOfInt, Int32.reduceToNatClampNeg, Int32.reduceOfNat, Bool.or_self, Bool.or_false, Bool.false_or, Bool.true_or, Bool.or_true, true_and, and_true, false_and, and_false, List.set_cons_zero, List.set_cons_succ, List.take_succ_cons, List.take_zero, List.drop_succ_cons, List.drop_zero, List.reverse_cons, List.reverse_nil, List.nil_append, List.cons_append, List.length_cons, List.length_nil, Option.toList_some, Option.toList_none, not_true_eq_false, not_false_eq_true, forall_const, true_implies, false_implies, nrw, TTS, s217, clN, litS, and01, cmpS, ltN, subS, not_true_eq_false, not_false_eq_true, and_true, true_and, and_false, false_and, and_self, or_true, true_or, or_false, false_or, ↓reduceIte, if_true, if_false, eq_self]
  refine vc_for (n + 1) (fun i => [.int (nI n), .int (nI p), .int (nI r), .long (lN (mN n p (100 - p) r i)), .null, .long (lN (wyN n i)), .null, .int (nI i)]) (fun i => m) (fun i hi => ?_) ?_
  · refine vc_wp (T := TT [(217, S217)]) (TTc t217 TTn) (fun _ => false) (rt0 := some .long) rfl (ckl_drop 6 c216) rfl ?_
    have hi2 : ¬ nI n < nI i := nI_nlt (by omega) (by omega)
    have e4 : nI n - nI i = nI (n - i) := nI_sub (by omega)
    have hz := nz_l (i := i + 1) (by omega) (by omega)
    have hs := ways_sm (n := n) (i := i) hn (by omega)
    rw [e4] at hs
    have hx1 : i ≤ 100 := by omega
    have hx2 : n - i ≤ 100 := by omega
    simp (disch := omega) only [List.drop, i216, wp_iinc, wpE0, wpE1, wpE2, wpE3, wpE4, wpE5, wpJ, okS, lt4S, popR, litS, Int32.reduceLT, Int32.reduceLE, List.getElem?_cons_zero, List.getElem?_cons_succ, Bool.false_eq_true, ↓reduceIte, Nat.reduceMod, Nat.reduceDiv, Nat.reduceAdd, Nat.reduceSub, Nat.reduceMul, Nat.reduceLeDiff, Nat.reduceEqDiff, Nat.reduceBEq, Int.reduceToNat, Int.reduceAdd, Int32.reduceOfInt, Int64.reduceOfInt, Int32.reduceToNatClampNeg, Int32.reduceOfNat, Bool.or_self, Bool.or_false, Bool.false_or, Bool.true_or, Bool.or_true, true_and, and_true, false_and, and_false, List.set_cons_zero, List.set_cons_succ, List.take_succ_cons, List.take_zero, List.drop_succ_cons, List.drop_zero, List.reverse_cons, List.reverse_nil, List.nil_append, List.cons_append, List.length_cons, List.length_nil, Option.toList_some, Option.toList_none, not_true_eq_false, not_false_eq_true, forall_const, true_implies, false_implies, nrw, TTS, s217, clN, litS, and01, cmpS, ltN, hz, hs, eq2, eq3, pw_lN, lN_mul, hx1, hx2, nI_leI, nI_1, e4, subS, hi2, nI_1, fd, not_true_eq_false, not_false_eq_true, and_true, true_and, and_false, false_and, and_self, or_true, true_or, or_false, false_or, ↓reduceIte, if_true, if_false, eq_self]
    refine ⟨fun z => ?_, fun z => ?_⟩
    · rw [mN, if_pos z]
      exact (lN_add _ 0).symm
    · rw [lN_add, mN, if_neg z]
  · have hi2 : nI n < nI (n + 1) := nI_lt (by omega) (by omega)
    refine vc_wp (T := TT [(217, S217)]) (TTc t217 TTn) (fun _ => false) (rt0 := some .long) rfl (ckl_drop 6 c216) rfl ?_
    simp (disch := omega) only [List.drop, i216, wp_iinc, wpE0, wpE1, wpE2, wpE3, wpE4, wpE5, wpJ, okS, lt4S, popR, litS, Int32.reduceLT, Int32.reduceLE, List.getElem?_cons_zero, List.getElem?_cons_succ, Bool.false_eq_true, ↓reduceIte, Nat.reduceMod, Nat.reduceDiv, Nat.reduceAdd, Nat.reduceSub, Nat.reduceMul, Nat.reduceLeDiff, Nat.reduceEqDiff, Nat.reduceBEq, Int.reduceToNat, Int.reduceAdd, Int32.reduceOfInt, Int64.reduceOfInt, Int32.reduceToNatClampNeg, Int32.reduceOfNat, Bool.or_self, Bool.or_false, Bool.false_or, Bool.true_or, Bool.or_true, true_and, and_true, false_and, and_false, List.set_cons_zero, List.set_cons_succ, List.take_succ_cons, List.take_zero, List.drop_succ_cons, List.drop_zero, List.reverse_cons, List.reverse_nil, List.nil_append, List.cons_append, List.length_cons, List.length_nil, Option.toList_some, Option.toList_none, not_true_eq_false, not_false_eq_true, forall_const, true_implies, false_implies, nrw, TTS, s217, clN, litS, and01, cmpS, ltN, hi2, not_true_eq_false, not_false_eq_true, and_true, true_and, and_false, false_and, and_self, or_true, true_or, or_false, false_or, ↓reduceIte, if_true, if_false, eq_self]
    exact h

def S216 (as : List Value) (m : xM) (Q : xQt) : Prop := match as with
  | [.int a, .int a2, .int a3] => (a = nI (ix a) ∧ a2 = nI (ix a2) ∧ a3 = nI (ix a3)) ∧ ix a < 8 ∧ ix a2 ≤ 100 ∧ ix a3 < 8 ∧ Q (some (.long (lN (sN (ix a) (ix a2) (100 - ix a2) (ix a3) (ix a - ix a3))))) m
  | _ => False
theorem s216 (a : Int32) (a2 : Int32) (a3 : Int32) (m : xM) (Q : xQt) : S216 [.int a, .int a2, .int a3] m Q = ((a = nI (ix a) ∧ a2 = nI (ix a2) ∧ a3 = nI (ix a3)) ∧ ix a < 8 ∧ ix a2 ≤ 100 ∧ ix a3 < 8 ∧ Q (some (.long (lN (sN (ix a) (ix a2) (100 - ix a2) (ix a3) (ix a - ix a3))))) m) := rfl
theorem t216 {G : xG} : ∀ as m Q, S216 as m Q → Tri G 216 as m Q := by
  intro as m Q h
  match as, h with
  | [.int a, .int a2, .int a3], h =>
    obtain ⟨⟨h1, h2, h3⟩, h4, h5, h6, h⟩ := h
    rw [h1, h2, h3]
    exact t216x h4 h5 h6 (by rw [mN_sN]; exact h)

theorem lN0 : (lN 0 = 0) = True := eq_true rfl
theorem t122x {G : xG} {m : xM} {Q : xQt} {a b : Nat} (ha : a < 2 ^ 63) (hb : b < 2 ^ 63) (h : Q (some (.long (lN (Nat.gcd a b)))) m) : Tri G 122 [.long (lN a), .long (lN b)] m Q := by
  have hlt := eu_lt (M := 2 ^ 63) ha hb
  refine tri_vc (ls := [.long (lN a), .null, .long (lN b), .null, .null, .null, .null, .null, .null, .null, .null]) (by decide +kernel) rfl (Nat.le_of_ble_eq_true rfl) ?_
  refine vc_seq (pc1 := 9) (ls1 := [.long (lN a), .null, .long (lN b), .null, .long (lN a), .null, .long (lN b), .null, .int 0, .null, .null]) (m1 := m) (vc_wp (T := TT []) TTn (fun p => p == 9) (rt0 := some .long) rfl c122 rfl ?_) ?_
  · simp (disch := omega) only [i122, wp_iinc, wpE0, wpE1, wpE2, wpE3, wpE4, wpE5, wpJ, okS, lt4S, popR, litS, Int32.reduceLT, Int32.reduceLE, List.getElem?_cons_zero, List.getElem?_cons_succ, Bool.false_eq_true, ↓reduceIte, Nat.reduceMod, Nat.reduceDiv, Nat.reduceAdd, Nat.reduceSub, Nat.reduceMul, Nat.reduceLeDiff, Nat.reduceEqDiff, Nat.reduceBEq, Int.reduceToNat, Int.reduceAdd, Int32.reduceOfInt, Int64.reduceOfInt, Int32.reduceToNatClampNeg, Int32.reduceOfNat, Bool.or_self, Bool.or_false, Bool.false_or, Bool.true_or, Bool.or_true, true_and, and_true, false_and, and_false, List.set_cons_zero, List.set_cons_succ, List.take_succ_cons, List.take_zero, List.drop_succ_cons, List.drop_zero, List.reverse_cons, List.reverse_nil, List.nil_append, List.cons_append, List.length_cons, List.length_nil, Option.toList_some, Option.toList_none, not_true_eq_false, not_false_eq_true, forall_const, true_implies, false_implies, nrw, TTS, litS, and01, cmpS, ltN, subS, not_true_eq_false, not_false_eq_true, and_true, true_and, and_false, false_and, and_self, or_true, true_or, or_false, false_or, ↓reduceIte, if_true, if_false, eq_self]
  refine vc_find 200 (fun i => [.long (lN a), .null, .long (lN b), .null, .long (lN (eu a b i).1), .null, .long (lN (eu a b i).2), .null, .int (nI i), .null, .null]) m (fun i => (eu a b i).2 = 0) (fun i hi hp hf => ?_) (fun i hi hp => ?_) (fun hf hk => ?_)
  · refine vc_wp (T := TT []) TTn (fun _ => false) (rt0 := some .long) rfl (ckl_drop 6 c122) rfl ?_
    have hi2 : ¬ (200 : Int32) ≤ nI i := nI_ge (b := 200) hi (by omega)
    have h1 := (hlt i).1
    have h2 := (hlt i).2
    have hz : (lN (eu a b i).2 = 0) = ((eu a b i).2 = 0) := propext (pk_lEQ (b := 0) h2 (by omega))
    simp (disch := omega) only [List.drop, i122, wp_iinc, wpE0, wpE1, wpE2, wpE3, wpE4, wpE5, wpJ, okS, lt4S, popR, litS, Int32.reduceLT, Int32.reduceLE, List.getElem?_cons_zero, List.getElem?_cons_succ, Bool.false_eq_true, ↓reduceIte, Nat.reduceMod, Nat.reduceDiv, Nat.reduceAdd, Nat.reduceSub, Nat.reduceMul, Nat.reduceLeDiff, Nat.reduceEqDiff, Nat.reduceBEq, Int.reduceToNat, Int.reduceAdd, Int32.reduceOfInt, Int64.reduceOfInt, Int32.reduceToNatClampNeg, Int32.reduceOfNat, Bool.or_self, Bool.or_false, Bool.false_or, Bool.true_or, Bool.or_true, true_and, and_true, false_and, and_false, List.set_cons_zero, List.set_cons_succ, List.take_succ_cons, List.take_zero, List.drop_succ_cons, List.drop_zero, List.reverse_cons, List.reverse_nil, List.nil_append, List.cons_append, List.length_cons, List.length_nil, Option.toList_some, Option.toList_none, not_true_eq_false, not_false_eq_true, forall_const, true_implies, false_implies, nrw, TTS, litS, and01, cmpS, ltN, hz, lN0, subS, nI_1, hi2, hp, not_true_eq_false, not_false_eq_true, and_true, true_and, and_false, false_and, and_self, or_true, true_or, or_false, false_or, ↓reduceIte, if_true, if_false, eq_self]
    have hg := eu_gcd a b i
    rw [hp, Nat.gcd_zero_right] at hg
    rw [hg]
    exact h
  · refine vc_wp (T := TT []) TTn (fun _ => false) (rt0 := some .long) rfl (ckl_drop 6 c122) rfl ?_
    have hi2 : ¬ (200 : Int32) ≤ nI i := nI_ge (b := 200) hi (by omega)
    have h1 := (hlt i).1
    have h2 := (hlt i).2
    have hz : (lN (eu a b i).2 = 0) = ((eu a b i).2 = 0) := propext (pk_lEQ (b := 0) h2 (by omega))
    have hp2 := hp
    have hr : lN (eu a b i).1 - lN (eu a b i).1 / lN (eu a b i).2 * lN (eu a b i).2 = lN ((eu a b i).1 % (eu a b i).2) := pk_lRem h1 (by omega) h2
    try simp only [Classical.not_not] at hp2
    simp (disch := omega) only [List.drop, i122, wp_iinc, wpE0, wpE1, wpE2, wpE3, wpE4, wpE5, wpJ, okS, lt4S, popR, litS, Int32.reduceLT, Int32.reduceLE, List.getElem?_cons_zero, List.getElem?_cons_succ, Bool.false_eq_true, ↓reduceIte, Nat.reduceMod, Nat.reduceDiv, Nat.reduceAdd, Nat.reduceSub, Nat.reduceMul, Nat.reduceLeDiff, Nat.reduceEqDiff, Nat.reduceBEq, Int.reduceToNat, Int.reduceAdd, Int32.reduceOfInt, Int64.reduceOfInt, Int32.reduceToNatClampNeg, Int32.reduceOfNat, Bool.or_self, Bool.or_false, Bool.false_or, Bool.true_or, Bool.or_true, true_and, and_true, false_and, and_false, List.set_cons_zero, List.set_cons_succ, List.take_succ_cons, List.take_zero, List.drop_succ_cons, List.drop_zero, List.reverse_cons, List.reverse_nil, List.nil_append, List.cons_append, List.length_cons, List.length_nil, Option.toList_some, Option.toList_none, not_true_eq_false, not_false_eq_true, forall_const, true_implies, false_implies, nrw, TTS, litS, and01, cmpS, ltN, hz, lN0, subS, nI_1, hi2, hp2, hr, eu, (show ∀ x : Nat, 20 + (x + 1) = 20 + x + 1 from fun _ => rfl), not_true_eq_false, not_false_eq_true, and_true, true_and, and_false, false_and, and_self, or_true, true_or, or_false, false_or, ↓reduceIte, if_true, if_false, eq_self]

  · exact (eu_end hb hk).elim

theorem t218x {G : xG} {m : xM} {Q : xQt} {a b : Nat} {c : Int32} (ha : a < 2 ^ 63) (hb : b < 2 ^ 63) (hb0 : 0 < b) (h : Q (some (.long (lN ((if c = 0 then a else b) / Nat.gcd a b)))) m) : Tri G 218 [.long (lN a), .long (lN b), .int c] m Q := by
  have hlt := eu_lt (M := 2 ^ 63) ha hb
  refine tri_vc (ls := [.long (lN a), .null, .long (lN b), .null, .int c, .null, .null, .null, .null, .null, .null]) (by decide +kernel) rfl (Nat.le_of_ble_eq_true rfl) ?_
  refine vc_seq (pc1 := 6) (ls1 := [.long (lN a), .null, .long (lN b), .null, .int c, .long (lN a), .null, .long (lN b), .null, .null, .null]) (m1 := m) (vc_wp (T := TT []) TTn (fun p => p == 6) (rt0 := some .long) rfl c218 rfl ?_) ?_
  · simp (disch := omega) only [i218, wp_iinc, wpE0, wpE1, wpE2, wpE3, wpE4, wpE5, wpJ, okS, lt4S, popR, litS, Int32.reduceLT, Int32.reduceLE, List.getElem?_cons_zero, List.getElem?_cons_succ, Bool.false_eq_true, ↓reduceIte, Nat.reduceMod, Nat.reduceDiv, Nat.reduceAdd, Nat.reduceSub, Nat.reduceMul, Nat.reduceLeDiff, Nat.reduceEqDiff, Nat.reduceBEq, Int.reduceToNat, Int.reduceAdd, Int32.reduceOfInt, Int64.reduceOfInt, Int32.reduceToNatClampNeg, Int32.reduceOfNat, Bool.or_self, Bool.or_false, Bool.false_or, Bool.true_or, Bool.or_true, true_and, and_true, false_and, and_false, List.set_cons_zero, List.set_cons_succ, List.take_succ_cons, List.take_zero, List.drop_succ_cons, List.drop_zero, List.reverse_cons, List.reverse_nil, List.nil_append, List.cons_append, List.length_cons, List.length_nil, Option.toList_some, Option.toList_none, not_true_eq_false, not_false_eq_true, forall_const, true_implies, false_implies, nrw, TTS, litS, and01, cmpS, ltN, subS, not_true_eq_false, not_false_eq_true, and_true, true_and, and_false, false_and, and_self, or_true, true_or, or_false, false_or, ↓reduceIte, if_true, if_false, eq_self]
  refine vc_find 200 (fun i => [.long (lN a), .null, .long (lN b), .null, .int c, .long (lN (eu a b i).1), .null, .long (lN (eu a b i).2), .null, .null, .null]) m (fun i => (eu a b i).2 = 0) (fun i hi hp hf => ?_) (fun i hi hp => ?_) (fun hf hk => ?_)
  · refine vc_wp (T := TT []) TTn (fun _ => false) (rt0 := some .long) rfl (ckl_drop 4 c218) rfl ?_
    have hi2 : True := trivial
    have h1 := (hlt i).1
    have h2 := (hlt i).2
    have hz : (lN (eu a b i).2 = 0) = ((eu a b i).2 = 0) := propext (pk_lEQ (b := 0) h2 (by omega))
    simp (disch := omega) only [List.drop, i218, wp_iinc, wpE0, wpE1, wpE2, wpE3, wpE4, wpE5, wpJ, okS, lt4S, popR, litS, Int32.reduceLT, Int32.reduceLE, List.getElem?_cons_zero, List.getElem?_cons_succ, Bool.false_eq_true, ↓reduceIte, Nat.reduceMod, Nat.reduceDiv, Nat.reduceAdd, Nat.reduceSub, Nat.reduceMul, Nat.reduceLeDiff, Nat.reduceEqDiff, Nat.reduceBEq, Int.reduceToNat, Int.reduceAdd, Int32.reduceOfInt, Int64.reduceOfInt, Int32.reduceToNatClampNeg, Int32.reduceOfNat, Bool.or_self, Bool.or_false, Bool.false_or, Bool.true_or, Bool.or_true, true_and, and_true, false_and, and_false, List.set_cons_zero, List.set_cons_succ, List.take_succ_cons, List.take_zero, List.drop_succ_cons, List.drop_zero, List.reverse_cons, List.reverse_nil, List.nil_append, List.cons_append, List.length_cons, List.length_nil, Option.toList_some, Option.toList_none, not_true_eq_false, not_false_eq_true, forall_const, true_implies, false_implies, nrw, TTS, litS, and01, cmpS, ltN, hz, lN0, subS, nI_1, hi2, hp, not_true_eq_false, not_false_eq_true, and_true, true_and, and_false, false_and, and_self, or_true, true_or, or_false, false_or, ↓reduceIte, if_true, if_false, eq_self]
    have hg := eu_gcd a b i
    rw [hp, Nat.gcd_zero_right] at hg
    have hg0 : 0 < Nat.gcd a b := Nat.gcd_pos_of_pos_right a hb0
    have hgz : ¬ lN (Nat.gcd a b) = 0 := by
      rw [show (0 : Int64) = lN 0 from rfl, pk_lEQ (by rw [← hg]; exact h1) (by omega)]
      omega
    rw [hg]
    refine ⟨fun z => ⟨hgz, ?_⟩, fun z => ⟨hgz, ?_⟩⟩
    · rw [pk_lDiv ha hg0 (by rw [← hg]; exact h1)]
      rw [if_pos z] at h
      exact h
    · rw [pk_lDiv hb hg0 (by rw [← hg]; exact h1)]
      rw [if_neg z] at h
      exact h
  · refine vc_wp (T := TT []) TTn (fun _ => false) (rt0 := some .long) rfl (ckl_drop 4 c218) rfl ?_
    have hi2 : True := trivial
    have h1 := (hlt i).1
    have h2 := (hlt i).2
    have hz : (lN (eu a b i).2 = 0) = ((eu a b i).2 = 0) := propext (pk_lEQ (b := 0) h2 (by omega))
    have hp2 := hp
    have hr : lN (eu a b i).1 - lN (eu a b i).1 / lN (eu a b i).2 * lN (eu a b i).2 = lN ((eu a b i).1 % (eu a b i).2) := pk_lRem h1 (by omega) h2
    try simp only [Classical.not_not] at hp2
    simp (disch := omega) only [List.drop, i218, wp_iinc, wpE0, wpE1, wpE2, wpE3, wpE4, wpE5, wpJ, okS, lt4S, popR, litS, Int32.reduceLT, Int32.reduceLE, List.getElem?_cons_zero, List.getElem?_cons_succ, Bool.false_eq_true, ↓reduceIte, Nat.reduceMod, Nat.reduceDiv, Nat.reduceAdd, Nat.reduceSub, Nat.reduceMul, Nat.reduceLeDiff, Nat.reduceEqDiff, Nat.reduceBEq, Int.reduceToNat, Int.reduceAdd, Int32.reduceOfInt, Int64.reduceOfInt, Int32.reduceToNatClampNeg, Int32.reduceOfNat, Bool.or_self, Bool.or_false, Bool.false_or, Bool.true_or, Bool.or_true, true_and, and_true, false_and, and_false, List.set_cons_zero, List.set_cons_succ, List.take_succ_cons, List.take_zero, List.drop_succ_cons, List.drop_zero, List.reverse_cons, List.reverse_nil, List.nil_append, List.cons_append, List.length_cons, List.length_nil, Option.toList_some, Option.toList_none, not_true_eq_false, not_false_eq_true, forall_const, true_implies, false_implies, nrw, TTS, litS, and01, cmpS, ltN, hz, lN0, subS, nI_1, hi2, hp2, hr, eu, (show ∀ x : Nat, 20 + (x + 1) = 20 + x + 1 from fun _ => rfl), not_true_eq_false, not_false_eq_true, and_true, true_and, and_false, false_and, and_self, or_true, true_or, or_false, false_or, ↓reduceIte, if_true, if_false, eq_self]

  · exact (eu_end hb hk).elim

