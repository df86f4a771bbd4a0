theorem litB : ((11 : Int32) = 10) = False ∧ ((12 : Int32) = 10) = False ∧ ((13 : Int32) = 10) = False ∧ ((14 : Int32) = 10) = False ∧ ((20 : Int32) = 10) = False ∧ ((21 : Int32) = 10) = False ∧ ((22 : Int32) = 10) = False ∧ ((23 : Int32) = 10) = False ∧ ((24 : Int32) = 10) = False ∧ ((10 : Int32) = 11) = False ∧ ((12 : Int32) = 11) = False ∧ ((13 : Int32) = 11) = False ∧ ((14 : Int32) = 11) = False ∧ ((20 : Int32) = 11) = False ∧ ((21 : Int32) = 11) = False ∧ ((22 : Int32) = 11) = False ∧ ((23 : Int32) = 11) = False ∧ ((24 : Int32) = 11) = False ∧ ((10 : Int32) = 12) = False ∧ ((11 : Int32) = 12) = False ∧ ((13 : Int32) = 12) = False ∧ ((14 : Int32) = 12) = False ∧ ((20 : Int32) = 12) = False ∧ ((21 : Int32) = 12) = False ∧ ((22 : Int32) = 12) = False ∧ ((23 : Int32) = 12) = False ∧ ((24 : Int32) = 12) = False ∧ ((10 : Int32) = 13) = False ∧ ((11 : Int32) = 13) = False ∧ ((12 : Int32) = 13) = False ∧ ((14 : Int32) = 13) = False ∧ ((20 : Int32) = 13) = False ∧ ((21 : Int32) = 13) = False ∧ ((22 : Int32) = 13) = False ∧ ((23 : Int32) = 13) = False ∧ ((24 : Int32) = 13) = False ∧ ((10 : Int32) = 14) = False ∧ ((11 : Int32) = 14) = False ∧ ((12 : Int32) = 14) = False ∧ ((13 : Int32) = 14) = False ∧ ((20 : Int32) = 14) = False ∧ ((21 : Int32) = 14) = False ∧ ((22 : Int32) = 14) = False ∧ ((23 : Int32) = 14) = False ∧ ((24 : Int32) = 14) = False ∧ ((10 : Int32) = 15) = False ∧ ((11 : Int32) = 15) = False ∧ ((12 : Int32) = 15) = False ∧ ((13 : Int32) = 15) = False ∧ ((14 : Int32) = 15) = False ∧ ((20 : Int32) = 15) = False ∧ ((21 : Int32) = 15) = False ∧ ((22 : Int32) = 15) = False ∧ ((23 : Int32) = 15) = False ∧ ((24 : Int32) = 15) = False ∧ ((10 : Int32) = 16) = False ∧ ((11 : Int32) = 16) = False ∧ ((12 : Int32) = 16) = False ∧ ((13 : Int32) = 16) = False ∧ ((14 : Int32) = 16) = False ∧ ((20 : Int32) = 16) = False ∧ ((21 : Int32) = 16) = False ∧ ((22 : Int32) = 16) = False ∧ ((23 : Int32) = 16) = False ∧ ((24 : Int32) = 16) = False ∧ ((10 : Int32) = 17) = False ∧ ((11 : Int32) = 17) = False ∧ ((12 : Int32) = 17) = False ∧ ((13 : Int32) = 17) = False ∧ ((14 : Int32) = 17) = False ∧ ((20 : Int32) = 17) = False ∧ ((21 : Int32) = 17) = False ∧ ((22 : Int32) = 17) = False ∧ ((23 : Int32) = 17) = False ∧ ((24 : Int32) = 17) = False ∧ ((10 : Int32) = 18) = False ∧ ((11 : Int32) = 18) = False ∧ ((12 : Int32) = 18) = False ∧ ((13 : Int32) = 18) = False ∧ ((14 : Int32) = 18) = False ∧ ((20 : Int32) = 18) = False ∧ ((21 : Int32) = 18) = False ∧ ((22 : Int32) = 18) = False ∧ ((23 : Int32) = 18) = False ∧ ((24 : Int32) = 18) = False ∧ ((10 : Int32) = 19) = False ∧ ((11 : Int32) = 19) = False ∧ ((12 : Int32) = 19) = False ∧ ((13 : Int32) = 19) = False ∧ ((14 : Int32) = 19) = False ∧ ((20 : Int32) = 19) = False ∧ ((21 : Int32) = 19) = False ∧ ((22 : Int32) = 19) = False ∧ ((23 : Int32) = 19) = False ∧ ((24 : Int32) = 19) = False ∧ ((10 : Int32) = 20) = False ∧ ((11 : Int32) = 20) = False ∧ ((12 : Int32) = 20) = False ∧ ((13 : Int32) = 20) = False ∧ ((14 : Int32) = 20) = False ∧ ((21 : Int32) = 20) = False ∧ ((22 : Int32) = 20) = False ∧ ((23 : Int32) = 20) = False ∧ ((24 : Int32) = 20) = False ∧ ((10 : Int32) = 21) = False ∧ ((11 : Int32) = 21) = False ∧ ((12 : Int32) = 21) = False ∧ ((13 : Int32) = 21) = False ∧ ((14 : Int32) = 21) = False ∧ ((20 : Int32) = 21) = False ∧ ((22 : Int32) = 21) = False ∧ ((23 : Int32) = 21) = False ∧ ((24 : Int32) = 21) = False ∧ ((10 : Int32) = 22) = False ∧ ((11 : Int32) = 22) = False ∧ ((12 : Int32) = 22) = False ∧ ((13 : Int32) = 22) = False ∧ ((14 : Int32) = 22) = False ∧ ((20 : Int32) = 22) = False ∧ ((21 : Int32) = 22) = False ∧ ((23 : Int32) = 22) = False ∧ ((24 : Int32) = 22) = False ∧ ((10 : Int32) = 23) = False ∧ ((11 : Int32) = 23) = False ∧ ((12 : Int32) = 23) = False ∧ ((13 : Int32) = 23) = False ∧ ((14 : Int32) = 23) = False ∧ ((20 : Int32) = 23) = False ∧ ((21 : Int32) = 23) = False ∧ ((22 : Int32) = 23) = False ∧ ((24 : Int32) = 23) = False ∧ ((10 : Int32) = 24) = False ∧ ((11 : Int32) = 24) = False ∧ ((12 : Int32) = 24) = False ∧ ((13 : Int32) = 24) = False ∧ ((14 : Int32) = 24) = False ∧ ((20 : Int32) = 24) = False ∧ ((21 : Int32) = 24) = False ∧ ((22 : Int32) = 24) = False ∧ ((23 : Int32) = 24) = False := ⟨eq_false (by decide), eq_false (by decide), eq_false (by decide), eq_false (by decide), eq_false (by decide), eq_false (by decide), eq_false (by decide), eq_false (by decide), eq_false (by decide), eq_false (by decide), eq_false (by decide), eq_false (by decide), eq_false (by decide), eq_false (by decide), eq_false (by decide), eq_false (by decide), eq_false (by decide), eq_false (by decide), eq_false (by decide), eq_false (by decide), eq_false (by decide), eq_false (by decide), eq_false (by decide), eq_false (by decide), eq_false (by decide), eq_false (by decide), eq_false (by decide), eq_false (by decide), eq_false (by decide), eq_false (by decide), eq_false (by decide), eq_false (by decide), eq_false (by decide), eq_false (by decide), eq_false (by decide), eq_false (by decide), eq_false (by decide), eq_false (by decide), eq_false (by decide), eq_false (by decide), eq_false (by decide), eq_false (by decide), eq_false (by decide), eq_false (by decide), eq_false (by decide), eq_false (by decide), eq_false (by decide), eq_false (by decide), eq_false (by decide), eq_false (by decide), eq_false (by decide), eq_false (by decide), eq_false (by decide), eq_false (by decide), eq_false (by decide), eq_false (by decide), eq_false (by decide), eq_false (by decide), eq_false (by decide), eq_false (by decide), eq_false (by decide), eq_false (by decide), eq_false (by decide), eq_false (by decide), eq_false (by decide), eq_false (by decide), eq_false (by decide), eq_false (by decide), eq_false (by decide), eq_false (by decide), eq_false (by decide), eq_false (by decide), eq_false (by decide), eq_false (by decide), eq_false (by decide), eq_false (by decide), eq_false (by decide), eq_false (by decide), eq_false (by decide), eq_false (by decide), eq_false (by decide), eq_false (by decide), eq_false (by decide), eq_false (by decide), eq_false (by decide), eq_false (by decide), eq_false (by decide), eq_false (by decide), eq_false (by decide), eq_false (by decide), eq_false (by decide), eq_false (by decide), eq_false (by decide), eq_false (by decide), eq_false (by decide), eq_false (by decide), eq_false (by decide), eq_false (by decide), eq_false (by decide), eq_false (by decide), eq_false (by decide), eq_false (by decide), eq_false (by decide), eq_false (by decide), eq_false (by decide), eq_false (by decide), eq_false (by decide), eq_false (by decide), eq_false (by decide), eq_false (by decide), eq_false (by decide), eq_false (by decide), eq_false (by decide), eq_false (by decide), eq_false (by decide), eq_false (by decide), eq_false (by decide), eq_false (by decide), eq_false (by decide), eq_false (by decide), eq_false (by decide), eq_false (by decide), eq_false (by decide), eq_false (by decide), eq_false (by decide), eq_false (by decide), eq_false (by decide), eq_false (by decide), eq_false (by decide), eq_false (by decide), eq_false (by decide), eq_false (by decide), eq_false (by decide), eq_false (by decide), eq_false (by decide), eq_false (by decide), eq_false (by decide), eq_false (by decide), eq_false (by decide), eq_false (by decide)⟩
theorem xc21 : xc 1021 0 = 10 ∧ xc 1021 1 = 0 ∧ xc 1021 2 = 11 ∧ xc 1021 3 = 12 ∧ xc 1021 4 = 14 ∧ xc 1021 5 = 13 ∧ xc 1022 0 = 20 ∧ xc 1022 1 = 23 ∧ xc 1022 2 = 21 ∧ xc 1022 3 = 0 ∧ xc 1022 4 = 22 ∧ xc 1022 5 = 24 := by decide
def bdy (k w : Int32) : Int32 := if w = 0 then (if k = 1 then 10 else if k = 2 then 11 else if k = 3 then 12 else if k = 4 then 14 else 13) else (if k = 1 then 23 else if k = 2 then 21 else if k = 3 then 21 else if k = 4 then 22 else 24)
theorem lit0B : ((10 : Int32) = 0) = False ∧ ((11 : Int32) = 0) = False ∧ ((12 : Int32) = 0) = False ∧ ((13 : Int32) = 0) = False ∧ ((14 : Int32) = 0) = False ∧ ((20 : Int32) = 0) = False ∧ ((21 : Int32) = 0) = False ∧ ((22 : Int32) = 0) = False ∧ ((23 : Int32) = 0) = False ∧ ((24 : Int32) = 0) = False := by decide +kernel

def S136 (as : List Value) (m : xM) (Q : xQt) : Prop := match as with
  | [.int a, .int a2] => ((a = 1 ∨ a = 2 ∨ a = 3 ∨ a = 4 ∨ a = 5) ∧ (a2 = 0 ∨ a2 = 1) ∧ Q (some (.int (bdy a a2))) m)
  | _ => False
theorem s136 (a a2 : Int32) (m : xM) (Q : xQt) : S136 [.int a, .int a2] m Q = ((a = 1 ∨ a = 2 ∨ a = 3 ∨ a = 4 ∨ a = 5) ∧ (a2 = 0 ∨ a2 = 1) ∧ Q (some (.int (bdy a a2))) m) := rfl
theorem t136 {G : xG} : ∀ as m Q, S136 as m Q → Tri G 136 as m Q := by
  intro as m Q h
  match as, h with
  | [.int a, .int a2], h =>
    obtain ⟨hk, hw, h⟩ := h
    rcases hk with rfl | rfl | rfl | rfl | rfl <;> rcases hw with rfl | rfl
    · refine tri_vc (ls := [.int 1, .int 0, .null, .null, .null]) (by decide +kernel) rfl (Nat.le_of_ble_eq_true rfl) ?_
      refine vc_seq (pc1 := 4) (ls1 := [.int 1, .int 0, .int 0, .int 1, .null]) (m1 := m) (vc_wp (T := TT [(132, S132)]) (TTc t132 TTn) (fun _ => false) (rt0 := some .int) rfl c136 rfl ?_) ?_
      · simp (disch := omega) only [i136, wp_iinc, wpE0, wpE1, wpE2, wpE3, wpE4, wpE5, wpJ, okS, lt4S, popR, litS, Int32.reduceLT, Int32.reduceLE, List.getElem?_cons_zero, List.getElem?_cons_succ, Bool.false_eq_true, ↓reduceIte, Nat.reduceMod, Nat.reduceDiv, Nat.reduceAdd, Nat.reduceSub, Nat.reduceMul, Nat.reduceLeDiff, Nat.reduceEqDiff, Nat.reduceBEq, Int.reduceToNat, Int.reduceAdd, Int32.reduceOfInt, Int64.reduceOfInt, Int32.reduceToNatClampNeg, Int32.reduceOfNat, Bool.or_self, Bool.or_false, Bool.false_or, Bool.true_or, Bool.or_true, true_and, and_true, false_and, and_false, List.set_cons_zero, List.set_cons_succ, List.take_succ_cons, List.take_zero, List.drop_succ_cons, List.drop_zero, List.reverse_cons, List.reverse_nil, List.nil_append, List.cons_append, List.length_cons, List.length_nil, Option.toList_some, Option.toList_none, not_true_eq_false, not_false_eq_true, forall_const, true_implies, false_implies, nrw, TTS, s132, i132, shK, xc20, xc21, in6, and01, litS, lit0B, neg1, ofI1, bdy, Int32.reduceAdd, Int32.reduceLT, Int32.reduceLE, Int32.reduceToNatClampNeg, subS, not_true_eq_false, not_false_eq_true, and_true, true_and, and_false, false_and, and_self, or_true, true_or, or_false, false_or, ↓reduceIte, if_true, if_false, eq_self]
      refine vc_wp (T := TT [(132, S132)]) (TTc t132 TTn) (fun _ => false) (rt0 := some .int) rfl (ckl_drop 4 c136) rfl ?_
      simp (disch := omega) only [List.drop, i136, wp_iinc, wpE0, wpE1, wpE2, wpE3, wpE4, wpE5, wpJ, okS, lt4S, popR, litS, Int32.reduceLT, Int32.reduceLE, List.getElem?_cons_zero, List.getElem?_cons_succ, Bool.false_eq_true, ↓reduceIte, Nat.reduceMod, Nat.reduceDiv, Nat.reduceAdd, Nat.reduceSub, Nat.reduceMul, Nat.reduceLeDiff, Nat.reduceEqDiff, Nat.reduceBEq, Int.reduceToNat, Int.reduceAdd, Int32.reduceOfInt, Int64.reduceOfInt, Int32.reduceToNatClampNeg, Int32.reduceOfNat, Bool.or_self, Bool.or_false, Bool.false_or, Bool.true_or, Bool.or_true, true_and, and_true, false_and, and_false, List.set_cons_zero, List.set_cons_succ, List.take_succ_cons, List.take_zero, List.drop_succ_cons, List.drop_zero, List.reverse_cons, List.reverse_nil, List.nil_append, List.cons_append, List.length_cons, List.length_nil, Option.toList_some, Option.toList_none, not_true_eq_false, not_false_eq_true, forall_const, true_implies, false_implies, nrw, TTS, s132, i132, shK, xc20, xc21, in6, and01, litS, lit0B, neg1, ofI1, bdy, Int32.reduceAdd, Int32.reduceLT, Int32.reduceLE, Int32.reduceToNatClampNeg, not_true_eq_false, not_false_eq_true, and_true, true_and, and_false, false_and, and_self, or_true, true_or, or_false, false_or, ↓reduceIte, if_true, if_false, eq_self]
      simp only [bdy, litS, not_true_eq_false, not_false_eq_true, and_true, true_and, and_false, false_and, and_self, or_true, true_or, or_false, false_or, ↓reduceIte, if_true, if_false, eq_self] at h
      exact h
    · refine tri_vc (ls := [.int 1, .int 1, .null, .null, .null]) (by decide +kernel) rfl (Nat.le_of_ble_eq_true rfl) ?_
      refine vc_wp (T := TT [(132, S132)]) (TTc t132 TTn) (fun _ => false) (rt0 := some .int) rfl c136 rfl ?_
      simp (disch := omega) only [i136, wp_iinc, wpE0, wpE1, wpE2, wpE3, wpE4, wpE5, wpJ, okS, lt4S, popR, litS, Int32.reduceLT, Int32.reduceLE, List.getElem?_cons_zero, List.getElem?_cons_succ, Bool.false_eq_true, ↓reduceIte, Nat.reduceMod, Nat.reduceDiv, Nat.reduceAdd, Nat.reduceSub, Nat.reduceMul, Nat.reduceLeDiff, Nat.reduceEqDiff, Nat.reduceBEq, Int.reduceToNat, Int.reduceAdd, Int32.reduceOfInt, Int64.reduceOfInt, Int32.reduceToNatClampNeg, Int32.reduceOfNat, Bool.or_self, Bool.or_false, Bool.false_or, Bool.true_or, Bool.or_true, true_and, and_true, false_and, and_false, List.set_cons_zero, List.set_cons_succ, List.take_succ_cons, List.take_zero, List.drop_succ_cons, List.drop_zero, List.reverse_cons, List.reverse_nil, List.nil_append, List.cons_append, List.length_cons, List.length_nil, Option.toList_some, Option.toList_none, not_true_eq_false, not_false_eq_true, forall_const, true_implies, false_implies, nrw, TTS, s132, i132, shK, xc20, xc21, in6, and01, litS, lit0B, neg1, ofI1, bdy, Int32.reduceAdd, Int32.reduceLT, Int32.reduceLE, Int32.reduceToNatClampNeg, not_true_eq_false, not_false_eq_true, and_true, true_and, and_false, false_and, and_self, or_true, true_or, or_false, false_or, ↓reduceIte, if_true, if_false, eq_self]
      simp only [bdy, litS, not_true_eq_false, not_false_eq_true, and_true, true_and, and_false, false_and, and_self, or_true, true_or, or_false, false_or, ↓reduceIte, if_true, if_false, eq_self] at h
      exact h
    · refine tri_vc (ls := [.int 2, .int 0, .null, .null, .null]) (by decide +kernel) rfl (Nat.le_of_ble_eq_true rfl) ?_
      refine vc_wp (T := TT [(132, S132)]) (TTc t132 TTn) (fun _ => false) (rt0 := some .int) rfl c136 rfl ?_
      simp (disch := omega) only [i136, wp_iinc, wpE0, wpE1, wpE2, wpE3, wpE4, wpE5, wpJ, okS, lt4S, popR, litS, Int32.reduceLT, Int32.reduceLE, List.getElem?_cons_zero, List.getElem?_cons_succ, Bool.false_eq_true, ↓reduceIte, Nat.reduceMod, Nat.reduceDiv, Nat.reduceAdd, Nat.reduceSub, Nat.reduceMul, Nat.reduceLeDiff, Nat.reduceEqDiff, Nat.reduceBEq, Int.reduceToNat, Int.reduceAdd, Int32.reduceOfInt, Int64.reduceOfInt, Int32.reduceToNatClampNeg, Int32.reduceOfNat, Bool.or_self, Bool.or_false, Bool.false_or, Bool.true_or, Bool.or_true, true_and, and_true, false_and, and_false, List.set_cons_zero, List.set_cons_succ, List.take_succ_cons, List.take_zero, List.drop_succ_cons, List.drop_zero, List.reverse_cons, List.reverse_nil, List.nil_append, List.cons_append, List.length_cons, List.length_nil, Option.toList_some, Option.toList_none, not_true_eq_false, not_false_eq_true, forall_const, true_implies, false_implies, nrw, TTS, s132, i132, shK, xc20, xc21, in6, and01, litS, lit0B, neg1, ofI1, bdy, Int32.reduceAdd, Int32.reduceLT, Int32.reduceLE, Int32.reduceToNatClampNeg, not_true_eq_false, not_false_eq_true, and_true, true_and, and_false, false_and, and_self, or_true, true_or, or_false, false_or, ↓reduceIte, if_true, if_false, eq_self]
      simp only [bdy, litS, not_true_eq_false, not_false_eq_true, and_true, true_and, and_false, false_and, and_self, or_true, true_or, or_false, false_or, ↓reduceIte, if_true, if_false, eq_self] at h
      exact h
    · refine tri_vc (ls := [.int 2, .int 1, .null, .null, .null]) (by decide +kernel) rfl (Nat.le_of_ble_eq_true rfl) ?_
      refine vc_wp (T := TT [(132, S132)]) (TTc t132 TTn) (fun _ => false) (rt0 := some .int) rfl c136 rfl ?_
      simp (disch := omega) only [i136, wp_iinc, wpE0, wpE1, wpE2, wpE3, wpE4, wpE5, wpJ, okS, lt4S, popR, litS, Int32.reduceLT, Int32.reduceLE, List.getElem?_cons_zero, List.getElem?_cons_succ, Bool.false_eq_true, ↓reduceIte, Nat.reduceMod, Nat.reduceDiv, Nat.reduceAdd, Nat.reduceSub, Nat.reduceMul, Nat.reduceLeDiff, Nat.reduceEqDiff, Nat.reduceBEq, Int.reduceToNat, Int.reduceAdd, Int32.reduceOfInt, Int64.reduceOfInt, Int32.reduceToNatClampNeg, Int32.reduceOfNat, Bool.or_self, Bool.or_false, Bool.false_or, Bool.true_or, Bool.or_true, true_and, and_true, false_and, and_false, List.set_cons_zero, List.set_cons_succ, List.take_succ_cons, List.take_zero, List.drop_succ_cons, List.drop_zero, List.reverse_cons, List.reverse_nil, List.nil_append, List.cons_append, List.length_cons, List.length_nil, Option.toList_some, Option.toList_none, not_true_eq_false, not_false_eq_true, forall_const, true_implies, false_implies, nrw, TTS, s132, i132, shK, xc20, xc21, in6, and01, litS, lit0B, neg1, ofI1, bdy, Int32.reduceAdd, Int32.reduceLT, Int32.reduceLE, Int32.reduceToNatClampNeg, not_true_eq_false, not_false_eq_true, and_true, true_and, and_false, false_and, and_self, or_true, true_or, or_false, false_or, ↓reduceIte, if_true, if_false, eq_self]
      simp only [bdy, litS, not_true_eq_false, not_false_eq_true, and_true, true_and, and_false, false_and, and_self, or_true, true_or, or_false, false_or, ↓reduceIte, if_true, if_false, eq_self] at h
      exact h
    · refine tri_vc (ls := [.int 3, .int 0, .null, .null, .null]) (by decide +kernel) rfl (Nat.le_of_ble_eq_true rfl) ?_
      refine vc_wp (T := TT [(132, S132)]) (TTc t132 TTn) (fun _ => false) (rt0 := some .int) rfl c136 rfl ?_
      simp (disch := omega) only [i136, wp_iinc, wpE0, wpE1, wpE2, wpE3, wpE4, wpE5, wpJ, okS, lt4S, popR, litS, Int32.reduceLT, Int32.reduceLE, List.getElem?_cons_zero, List.getElem?_cons_succ, Bool.false_eq_true, ↓reduceIte, Nat.reduceMod, Nat.reduceDiv, Nat.reduceAdd, Nat.reduceSub, Nat.reduceMul, Nat.reduceLeDiff, Nat.reduceEqDiff, Nat.reduceBEq, Int.reduceToNat, Int.reduceAdd, Int32.reduceOfInt, Int64.reduceOfInt, Int32.reduceToNatClampNeg, Int32.reduceOfNat, Bool.or_self, Bool.or_false, Bool.false_or, Bool.true_or, Bool.or_true, true_and, and_true, false_and, and_false, List.set_cons_zero, List.set_cons_succ, List.take_succ_cons, List.take_zero, List.drop_succ_cons, List.drop_zero, List.reverse_cons, List.reverse_nil, List.nil_append, List.cons_append, List.length_cons, List.length_nil, Option.toList_some, Option.toList_none, not_true_eq_false, not_false_eq_true, forall_const, true_implies, false_implies, nrw, TTS, s132, i132, shK, xc20, xc21, in6, and01, litS, lit0B, neg1, ofI1, bdy, Int32.reduceAdd, Int32.reduceLT, Int32.reduceLE, Int32.reduceToNatClampNeg, not_true_eq_false, not_false_eq_true, and_true, true_and, and_false, false_and, and_self, or_true, true_or, or_false, false_or, ↓reduceIte, if_true, if_false, eq_self]
      simp only [bdy, litS, not_true_eq_false, not_false_eq_true, and_true, true_and, and_false, false_and, and_self, or_true, true_or, or_false, false_or, ↓reduceIte, if_true, if_false, eq_self] at h
      exact h
    · refine tri_vc (ls := [.int 3, .int 1, .null, .null, .null]) (by decide +kernel) rfl (Nat.le_of_ble_eq_true rfl) ?_
      refine vc_seq (pc1 := 4) (ls1 := [.int 3, .int 1, .int 2, .int 1, .null]) (m1 := m) (vc_wp (T := TT [(132, S132)]) (TTc t132 TTn) (fun _ => false) (rt0 := some .int) rfl c136 rfl ?_) ?_
      · simp (disch := omega) only [i136, wp_iinc, wpE0, wpE1, wpE2, wpE3, wpE4, wpE5, wpJ, okS, lt4S, popR, litS, Int32.reduceLT, Int32.reduceLE, List.getElem?_cons_zero, List.getElem?_cons_succ, Bool.false_eq_true, ↓reduceIte, Nat.reduceMod, Nat.reduceDiv, Nat.reduceAdd, Nat.reduceSub, Nat.reduceMul, Nat.reduceLeDiff, Nat.reduceEqDiff, Nat.reduceBEq, Int.reduceToNat, Int.reduceAdd, Int32.reduceOfInt, Int64.reduceOfInt, Int32.reduceToNatClampNeg, Int32.reduceOfNat, Bool.or_self, Bool.or_false, Bool.false_or, Bool.true_or, Bool.or_true, true_and, and_true, false_and, and_false, List.set_cons_zero, List.set_cons_succ, List.take_succ_cons, List.take_zero, List.drop_succ_cons, List.drop_zero, List.reverse_cons, List.reverse_nil, List.nil_append, List.cons_append, List.length_cons, List.length_nil, Option.toList_some, Option.toList_none, not_true_eq_false, not_false_eq_true, forall_const, true_implies, false_implies, nrw, TTS, s132, i132, shK, xc20, xc21, in6, and01, litS, lit0B, neg1, ofI1, bdy, Int32.reduceAdd, Int32.reduceLT, Int32.reduceLE, Int32.reduceToNatClampNeg, subS, not_true_eq_false, not_false_eq_true, and_true, true_and, and_false, false_and, and_self, or_true, true_or, or_false, false_or, ↓reduceIte, if_true, if_false, eq_self]
      refine vc_wp (T := TT [(132, S132)]) (TTc t132 TTn) (fun _ => false) (rt0 := some .int) rfl (ckl_drop 4 c136) rfl ?_
      simp (disch := omega) only [List.drop, i136, wp_iinc, wpE0, wpE1, wpE2, wpE3, wpE4, wpE5, wpJ, okS, lt4S, popR, litS, Int32.reduceLT, Int32.reduceLE, List.getElem?_cons_zero, List.getElem?_cons_succ, Bool.false_eq_true, ↓reduceIte, Nat.reduceMod, Nat.reduceDiv, Nat.reduceAdd, Nat.reduceSub, Nat.reduceMul, Nat.reduceLeDiff, Nat.reduceEqDiff, Nat.reduceBEq, Int.reduceToNat, Int.reduceAdd, Int32.reduceOfInt, Int64.reduceOfInt, Int32.reduceToNatClampNeg, Int32.reduceOfNat, Bool.or_self, Bool.or_false, Bool.false_or, Bool.true_or, Bool.or_true, true_and, and_true, false_and, and_false, List.set_cons_zero, List.set_cons_succ, List.take_succ_cons, List.take_zero, List.drop_succ_cons, List.drop_zero, List.reverse_cons, List.reverse_nil, List.nil_append, List.cons_append, List.length_cons, List.length_nil, Option.toList_some, Option.toList_none, not_true_eq_false, not_false_eq_true, forall_const, true_implies, false_implies, nrw, TTS, s132, i132, shK, xc20, xc21, in6, and01, litS, lit0B, neg1, ofI1, bdy, Int32.reduceAdd, Int32.reduceLT, Int32.reduceLE, Int32.reduceToNatClampNeg, not_true_eq_false, not_false_eq_true, and_true, true_and, and_false, false_and, and_self, or_true, true_or, or_false, false_or, ↓reduceIte, if_true, if_false, eq_self]
      simp only [bdy, litS, not_true_eq_false, not_false_eq_true, and_true, true_and, and_false, false_and, and_self, or_true, true_or, or_false, false_or, ↓reduceIte, if_true, if_false, eq_self] at h
      exact h
    · refine tri_vc (ls := [.int 4, .int 0, .null, .null, .null]) (by decide +kernel) rfl (Nat.le_of_ble_eq_true rfl) ?_
      refine vc_wp (T := TT [(132, S132)]) (TTc t132 TTn) (fun _ => false) (rt0 := some .int) rfl c136 rfl ?_
      simp (disch := omega) only [i136, wp_iinc, wpE0, wpE1, wpE2, wpE3, wpE4, wpE5, wpJ, okS, lt4S, popR, litS, Int32.reduceLT, Int32.reduceLE, List.getElem?_cons_zero, List.getElem?_cons_succ, Bool.false_eq_true, ↓reduceIte, Nat.reduceMod, Nat.reduceDiv, Nat.reduceAdd, Nat.reduceSub, Nat.reduceMul, Nat.reduceLeDiff, Nat.reduceEqDiff, Nat.reduceBEq, Int.reduceToNat, Int.reduceAdd, Int32.reduceOfInt, Int64.reduceOfInt, Int32.reduceToNatClampNeg, Int32.reduceOfNat, Bool.or_self, Bool.or_false, Bool.false_or, Bool.true_or, Bool.or_true, true_and, and_true, false_and, and_false, List.set_cons_zero, List.set_cons_succ, List.take_succ_cons, List.take_zero, List.drop_succ_cons, List.drop_zero, List.reverse_cons, List.reverse_nil, List.nil_append, List.cons_append, List.length_cons, List.length_nil, Option.toList_some, Option.toList_none, not_true_eq_false, not_false_eq_true, forall_const, true_implies, false_implies, nrw, TTS, s132, i132, shK, xc20, xc21, in6, and01, litS, lit0B, neg1, ofI1, bdy, Int32.reduceAdd, Int32.reduceLT, Int32.reduceLE, Int32.reduceToNatClampNeg, not_true_eq_false, not_false_eq_true, and_true, true_and, and_false, false_and, and_self, or_true, true_or, or_false, false_or, ↓reduceIte, if_true, if_false, eq_self]
      simp only [bdy, litS, not_true_eq_false, not_false_eq_true, and_true, true_and, and_false, false_and, and_self, or_true, true_or, or_false, false_or, ↓reduceIte, if_true, if_false, eq_self] at h
      exact h
    · refine tri_vc (ls := [.int 4, .int 1, .null, .null, .null]) (by decide +kernel) rfl (Nat.le_of_ble_eq_true rfl) ?_
      refine vc_wp (T := TT [(132, S132)]) (TTc t132 TTn) (fun _ => false) (rt0 := some .int) rfl c136 rfl ?_
      simp (disch := omega) only [i136, wp_iinc, wpE0, wpE1, wpE2, wpE3, wpE4, wpE5, wpJ, okS, lt4S, popR, litS, Int32.reduceLT, Int32.reduceLE, List.getElem?_cons_zero, List.getElem?_cons_succ, Bool.false_eq_true, ↓reduceIte, Nat.reduceMod, Nat.reduceDiv, Nat.reduceAdd, Nat.reduceSub, Nat.reduceMul, Nat.reduceLeDiff, Nat.reduceEqDiff, Nat.reduceBEq, Int.reduceToNat, Int.reduceAdd, Int32.reduceOfInt, Int64.reduceOfInt, Int32.reduceToNatClampNeg, Int32.reduceOfNat, Bool.or_self, Bool.or_false, Bool.false_or, Bool.true_or, Bool.or_true, true_and, and_true, false_and, and_false, List.set_cons_zero, List.set_cons_succ, List.take_succ_cons, List.take_zero, List.drop_succ_cons, List.drop_zero, List.reverse_cons, List.reverse_nil, List.nil_append, List.cons_append, List.length_cons, List.length_nil, Option.toList_some, Option.toList_none, not_true_eq_false, not_false_eq_true, forall_const, true_implies, false_implies, nrw, TTS, s132, i132, shK, xc20, xc21, in6, and01, litS, lit0B, neg1, ofI1, bdy, Int32.reduceAdd, Int32.reduceLT, Int32.reduceLE, Int32.reduceToNatClampNeg, not_true_eq_false, not_false_eq_true, and_true, true_and, and_false, false_and, and_self, or_true, true_or, or_false, false_or, ↓reduceIte, if_true, if_false, eq_self]
      simp only [bdy, litS, not_true_eq_false, not_false_eq_true, and_true, true_and, and_false, false_and, and_self, or_true, true_or, or_false, false_or, ↓reduceIte, if_true, if_false, eq_self] at h
      exact h
    · refine tri_vc (ls := [.int 5, .int 0, .null, .null, .null]) (by decide +kernel) rfl (Nat.le_of_ble_eq_true rfl) ?_
      refine vc_wp (T := TT [(132, S132)]) (TTc t132 TTn) (fun _ => false) (rt0 := some .int) rfl c136 rfl ?_
      simp (disch := omega) only [i136, wp_iinc, wpE0, wpE1, wpE2, wpE3, wpE4, wpE5, wpJ, okS, lt4S, popR, litS, Int32.reduceLT, Int32.reduceLE, List.getElem?_cons_zero, List.getElem?_cons_succ, Bool.false_eq_true, ↓reduceIte, Nat.reduceMod, Nat.reduceDiv, Nat.reduceAdd, Nat.reduceSub, Nat.reduceMul, Nat.reduceLeDiff, Nat.reduceEqDiff, Nat.reduceBEq, Int.reduceToNat, Int.reduceAdd, Int32.reduceOfInt, Int64.reduceOfInt, Int32.reduceToNatClampNeg, Int32.reduceOfNat, Bool.or_self, Bool.or_false, Bool.false_or, Bool.true_or, Bool.or_true, true_and, and_true, false_and, and_false, List.set_cons_zero, List.set_cons_succ, List.take_succ_cons, List.take_zero, List.drop_succ_cons, List.drop_zero, List.reverse_cons, List.reverse_nil, List.nil_append, List.cons_append, List.length_cons, List.length_nil, Option.toList_some, Option.toList_none, not_true_eq_false, not_false_eq_true, forall_const, true_implies, false_implies, nrw, TTS, s132, i132, shK, xc20, xc21, in6, and01, litS, lit0B, neg1, ofI1, bdy, Int32.reduceAdd, Int32.reduceLT, Int32.reduceLE, Int32.reduceToNatClampNeg, not_true_eq_false, not_false_eq_true, and_true, true_and, and_false, false_and, and_self, or_true, true_or, or_false, false_or, ↓reduceIte, if_true, if_false, eq_self]
      simp only [bdy, litS, not_true_eq_false, not_false_eq_true, and_true, true_and, and_false, false_and, and_self, or_true, true_or, or_false, false_or, ↓reduceIte, if_true, if_false, eq_self] at h
      exact h
    · refine tri_vc (ls := [.int 5, .int 1, .null, .null, .null]) (by decide +kernel) rfl (Nat.le_of_ble_eq_true rfl) ?_
      refine vc_wp (T := TT [(132, S132)]) (TTc t132 TTn) (fun _ => false) (rt0 := some .int) rfl c136 rfl ?_
      simp (disch := omega) only [i136, wp_iinc, wpE0, wpE1, wpE2, wpE3, wpE4, wpE5, wpJ, okS, lt4S, popR, litS, Int32.reduceLT, Int32.reduceLE, List.getElem?_cons_zero, List.getElem?_cons_succ, Bool.false_eq_true, ↓reduceIte, Nat.reduceMod, Nat.reduceDiv, Nat.reduceAdd, Nat.reduceSub, Nat.reduceMul, Nat.reduceLeDiff, Nat.reduceEqDiff, Nat.reduceBEq, Int.reduceToNat, Int.reduceAdd, Int32.reduceOfInt, Int64.reduceOfInt, Int32.reduceToNatClampNeg, Int32.reduceOfNat, Bool.or_self, Bool.or_false, Bool.false_or, Bool.true_or, Bool.or_true, true_and, and_true, false_and, and_false, List.set_cons_zero, List.set_cons_succ, List.take_succ_cons, List.take_zero, List.drop_succ_cons, List.drop_zero, List.reverse_cons, List.reverse_nil, List.nil_append, List.cons_append, List.length_cons, List.length_nil, Option.toList_some, Option.toList_none, not_true_eq_false, not_false_eq_true, forall_const, true_implies, false_implies, nrw, TTS, s132, i132, shK, xc20, xc21, in6, and01, litS, lit0B, neg1, ofI1, bdy, Int32.reduceAdd, Int32.reduceLT, Int32.reduceLE, Int32.reduceToNatClampNeg, not_true_eq_false, not_false_eq_true, and_true, true_and, and_false, false_and, and_self, or_true, true_or, or_false, false_or, ↓reduceIte, if_true, if_false, eq_self]
      simp only [bdy, litS, not_true_eq_false, not_false_eq_true, and_true, true_and, and_false, false_and, and_self, or_true, true_or, or_false, false_or, ↓reduceIte, if_true, if_false, eq_self] at h
      exact h

def S138 (as : List Value) (m : xM) (Q : xQt) : Prop := match as with
  | [.ref o, .int a] => (o = 84) ∧ (vp_in (m.1 84 1) 16) ∧ (¬ 16 ≤ m.1 84 1) ∧ Q (none) (xa (xa m 85 (upd (m.1 85) (ix (m.1 84 1)) a)) 84 (upd (m.1 84) 1 (m.1 84 1 + 1)))
  | _ => False
theorem s138 (o : Nat) (a : Int32) (m : xM) (Q : xQt) : S138 [.ref o, .int a] m Q = ((o = 84) ∧ (vp_in (m.1 84 1) 16) ∧ (¬ 16 ≤ m.1 84 1) ∧ Q (none) (xa (xa m 85 (upd (m.1 85) (ix (m.1 84 1)) a)) 84 (upd (m.1 84) 1 (m.1 84 1 + 1)))) := rfl
theorem t138 {G : xG} : ∀ as m Q, S138 as m Q → Tri G 138 as m Q := by
  intro as m Q h
  match as, h with
  | [.ref o, .int a], h =>
    obtain ⟨rfl, hv, h1, h⟩ := h
    refine tri_wp (T := TT []) (ls := [.ref 84, .int a]) TTn c138 (by decide +kernel) (rt0 := none) rfl rfl (Nat.le_of_ble_eq_true rfl) rfl ?_
    simp only [i138, wp_iinc, wpE0, wpE1, wpE2, wpE3, wpE4, wpE5, wpJ, okS, lt4S, popR, litS, Int32.reduceLT, Int32.reduceLE, List.getElem?_cons_zero, List.getElem?_cons_succ, Bool.false_eq_true, ↓reduceIte, Nat.reduceMod, Nat.reduceDiv, Nat.reduceAdd, Nat.reduceSub, Nat.reduceMul, Nat.reduceLeDiff, Nat.reduceEqDiff, Nat.reduceBEq, Int.reduceToNat, Int.reduceAdd, Int32.reduceOfInt, Int64.reduceOfInt, Int32.reduceToNatClampNeg, Int32.reduceOfNat, Bool.or_self, Bool.or_false, Bool.false_or, Bool.true_or, Bool.or_true, true_and, and_true, false_and, and_false, List.set_cons_zero, List.set_cons_succ, List.take_succ_cons, List.take_zero, List.drop_succ_cons, List.drop_zero, List.reverse_cons, List.reverse_nil, List.nil_append, List.cons_append, List.length_cons, List.length_nil, Option.toList_some, Option.toList_none, not_true_eq_false, not_false_eq_true, forall_const, true_implies, false_implies, nrw, TTS, shO, xa_1, Nat.reduceEqDiff, ↓reduceIte, not_true_eq_false, not_false_eq_true, and_true, true_and, and_false, false_and, and_self, or_true, true_or, or_false, false_or, ↓reduceIte, if_true, if_false, eq_self, hv, h1]
    exact h

def S237 (as : List Value) (m : xM) (Q : xQt) : Prop := match as with
  | [.ref o, .int a, .ref c, .int b, .int d] => wp (fun _ _ _ _ => False) (fun _ => false) Q (some .long) (TT [(130, S130), (136, S136), (138, S138)]) none i237 [.ref o, .int a, .ref c, .int b, .int d, .null, .null] [] m
  | _ => False
theorem s237 (o : Nat) (a : Int32) (c : Nat) (b : Int32) (d : Int32) (m : xM) (Q : xQt) : S237 [.ref o, .int a, .ref c, .int b, .int d] m Q = wp (fun _ _ _ _ => False) (fun _ => false) Q (some .long) (TT [(130, S130), (136, S136), (138, S138)]) none i237 [.ref o, .int a, .ref c, .int b, .int d, .null, .null] [] m := rfl
theorem t237 {G : xG} : ∀ as m Q, S237 as m Q → Tri G 237 as m Q := by
  intro as m Q h
  match as, h with
  | [.ref o, .int a, .ref c, .int b, .int d], h => exact tri_wp (T := TT [(130, S130), (136, S136), (138, S138)]) (ls := [.ref o, .int a, .ref c, .int b, .int d, .null, .null]) (TTc t130 (TTc t136 (TTc t138 TTn))) c237 (by decide +kernel) (rt0 := some .long) rfl rfl (Nat.le_of_ble_eq_true rfl) rfl h

def S238 (as : List Value) (m : xM) (Q : xQt) : Prop := match as with
  | [.ref o, .int a, .ref c, .int b, .int d] => wp (fun _ _ _ _ => False) (fun _ => false) Q (some .long) (TT [(130, S130), (136, S136), (138, S138), (237, S237)]) none i238 [.ref o, .int a, .ref c, .int b, .int d, .null, .null] [] m
  | _ => False
theorem s238 (o : Nat) (a : Int32) (c : Nat) (b : Int32) (d : Int32) (m : xM) (Q : xQt) : S238 [.ref o, .int a, .ref c, .int b, .int d] m Q = wp (fun _ _ _ _ => False) (fun _ => false) Q (some .long) (TT [(130, S130), (136, S136), (138, S138), (237, S237)]) none i238 [.ref o, .int a, .ref c, .int b, .int d, .null, .null] [] m := rfl
theorem t238 {G : xG} : ∀ as m Q, S238 as m Q → Tri G 238 as m Q := by
  intro as m Q h
  match as, h with
  | [.ref o, .int a, .ref c, .int b, .int d], h => exact tri_wp (T := TT [(130, S130), (136, S136), (138, S138), (237, S237)]) (ls := [.ref o, .int a, .ref c, .int b, .int d, .null, .null]) (TTc t130 (TTc t136 (TTc t138 (TTc t237 TTn)))) c238 (by decide +kernel) (rt0 := some .long) rfl rfl (Nat.le_of_ble_eq_true rfl) rfl h

def S239 (as : List Value) (m : xM) (Q : xQt) : Prop := match as with
  | [.ref o, .int a, .ref c, .int b, .int d] => wp (fun _ _ _ _ => False) (fun _ => false) Q (some .long) (TT [(130, S130), (136, S136), (138, S138), (238, S238)]) none i239 [.ref o, .int a, .ref c, .int b, .int d, .null, .null] [] m
  | _ => False
theorem s239 (o : Nat) (a : Int32) (c : Nat) (b : Int32) (d : Int32) (m : xM) (Q : xQt) : S239 [.ref o, .int a, .ref c, .int b, .int d] m Q = wp (fun _ _ _ _ => False) (fun _ => false) Q (some .long) (TT [(130, S130), (136, S136), (138, S138), (238, S238)]) none i239 [.ref o, .int a, .ref c, .int b, .int d, .null, .null] [] m := rfl
theorem t239 {G : xG} : ∀ as m Q, S239 as m Q → Tri G 239 as m Q := by
  intro as m Q h
  match as, h with
  | [.ref o, .int a, .ref c, .int b, .int d], h => exact tri_wp (T := TT [(130, S130), (136, S136), (138, S138), (238, S238)]) (ls := [.ref o, .int a, .ref c, .int b, .int d, .null, .null]) (TTc t130 (TTc t136 (TTc t138 (TTc t238 TTn)))) c239 (by decide +kernel) (rt0 := some .long) rfl rfl (Nat.le_of_ble_eq_true rfl) rfl h

def S240 (as : List Value) (m : xM) (Q : xQt) : Prop := match as with
  | [.ref o, .int a, .ref c, .int b, .int d] => wp (fun _ _ _ _ => False) (fun _ => false) Q (some .long) (TT [(130, S130), (136, S136), (138, S138), (239, S239)]) none i240 [.ref o, .int a, .ref c, .int b, .int d, .null, .null] [] m
  | _ => False
theorem s240 (o : Nat) (a : Int32) (c : Nat) (b : Int32) (d : Int32) (m : xM) (Q : xQt) : S240 [.ref o, .int a, .ref c, .int b, .int d] m Q = wp (fun _ _ _ _ => False) (fun _ => false) Q (some .long) (TT [(130, S130), (136, S136), (138, S138), (239, S239)]) none i240 [.ref o, .int a, .ref c, .int b, .int d, .null, .null] [] m := rfl
theorem t240 {G : xG} : ∀ as m Q, S240 as m Q → Tri G 240 as m Q := by
  intro as m Q h
  match as, h with
  | [.ref o, .int a, .ref c, .int b, .int d], h => exact tri_wp (T := TT [(130, S130), (136, S136), (138, S138), (239, S239)]) (ls := [.ref o, .int a, .ref c, .int b, .int d, .null, .null]) (TTc t130 (TTc t136 (TTc t138 (TTc t239 TTn)))) c240 (by decide +kernel) (rt0 := some .long) rfl rfl (Nat.le_of_ble_eq_true rfl) rfl h

def S241 (as : List Value) (m : xM) (Q : xQt) : Prop := match as with
  | [.ref o, .int a, .ref c, .int b, .int d] => wp (fun _ _ _ _ => False) (fun _ => false) Q (some .long) (TT [(130, S130), (136, S136), (138, S138), (240, S240)]) none i241 [.ref o, .int a, .ref c, .int b, .int d, .null, .null] [] m
  | _ => False
theorem s241 (o : Nat) (a : Int32) (c : Nat) (b : Int32) (d : Int32) (m : xM) (Q : xQt) : S241 [.ref o, .int a, .ref c, .int b, .int d] m Q = wp (fun _ _ _ _ => False) (fun _ => false) Q (some .long) (TT [(130, S130), (136, S136), (138, S138), (240, S240)]) none i241 [.ref o, .int a, .ref c, .int b, .int d, .null, .null] [] m := rfl
theorem t241 {G : xG} : ∀ as m Q, S241 as m Q → Tri G 241 as m Q := by
  intro as m Q h
  match as, h with
  | [.ref o, .int a, .ref c, .int b, .int d], h => exact tri_wp (T := TT [(130, S130), (136, S136), (138, S138), (240, S240)]) (ls := [.ref o, .int a, .ref c, .int b, .int d, .null, .null]) (TTc t130 (TTc t136 (TTc t138 (TTc t240 TTn)))) c241 (by decide +kernel) (rt0 := some .long) rfl rfl (Nat.le_of_ble_eq_true rfl) rfl h

def S242 (as : List Value) (m : xM) (Q : xQt) : Prop := match as with
  | [.ref o, .int a, .ref c, .int b, .int d] => wp (fun _ _ _ _ => False) (fun _ => false) Q (some .long) (TT [(130, S130), (136, S136), (138, S138), (241, S241)]) none i242 [.ref o, .int a, .ref c, .int b, .int d, .null, .null] [] m
  | _ => False
theorem s242 (o : Nat) (a : Int32) (c : Nat) (b : Int32) (d : Int32) (m : xM) (Q : xQt) : S242 [.ref o, .int a, .ref c, .int b, .int d] m Q = wp (fun _ _ _ _ => False) (fun _ => false) Q (some .long) (TT [(130, S130), (136, S136), (138, S138), (241, S241)]) none i242 [.ref o, .int a, .ref c, .int b, .int d, .null, .null] [] m := rfl
theorem t242 {G : xG} : ∀ as m Q, S242 as m Q → Tri G 242 as m Q := by
  intro as m Q h
  match as, h with
  | [.ref o, .int a, .ref c, .int b, .int d], h => exact tri_wp (T := TT [(130, S130), (136, S136), (138, S138), (241, S241)]) (ls := [.ref o, .int a, .ref c, .int b, .int d, .null, .null]) (TTc t130 (TTc t136 (TTc t138 (TTc t241 TTn)))) c242 (by decide +kernel) (rt0 := some .long) rfl rfl (Nat.le_of_ble_eq_true rfl) rfl h

def S243 (as : List Value) (m : xM) (Q : xQt) : Prop := match as with
  | [.ref o, .int a, .ref c, .int b, .int d] => wp (fun _ _ _ _ => False) (fun _ => false) Q (some .long) (TT [(130, S130), (136, S136), (138, S138), (242, S242)]) none i243 [.ref o, .int a, .ref c, .int b, .int d, .null, .null] [] m
  | _ => False
theorem s243 (o : Nat) (a : Int32) (c : Nat) (b : Int32) (d : Int32) (m : xM) (Q : xQt) : S243 [.ref o, .int a, .ref c, .int b, .int d] m Q = wp (fun _ _ _ _ => False) (fun _ => false) Q (some .long) (TT [(130, S130), (136, S136), (138, S138), (242, S242)]) none i243 [.ref o, .int a, .ref c, .int b, .int d, .null, .null] [] m := rfl
theorem t243 {G : xG} : ∀ as m Q, S243 as m Q → Tri G 243 as m Q := by
  intro as m Q h
  match as, h with
  | [.ref o, .int a, .ref c, .int b, .int d], h => exact tri_wp (T := TT [(130, S130), (136, S136), (138, S138), (242, S242)]) (ls := [.ref o, .int a, .ref c, .int b, .int d, .null, .null]) (TTc t130 (TTc t136 (TTc t138 (TTc t242 TTn)))) c243 (by decide +kernel) (rt0 := some .long) rfl rfl (Nat.le_of_ble_eq_true rfl) rfl h

def S135 (as : List Value) (m : xM) (Q : xQt) : Prop := match as with
  | [.ref o, .ref c, .int b, .int a] => wp (fun _ _ _ _ => False) (fun _ => false) Q (some .long) (TT [(130, S130), (136, S136), (243, S243)]) none i135 [.ref o, .ref c, .int b, .int a] [] m
  | _ => False
theorem s135 (o : Nat) (c : Nat) (b : Int32) (a : Int32) (m : xM) (Q : xQt) : S135 [.ref o, .ref c, .int b, .int a] m Q = wp (fun _ _ _ _ => False) (fun _ => false) Q (some .long) (TT [(130, S130), (136, S136), (243, S243)]) none i135 [.ref o, .ref c, .int b, .int a] [] m := rfl
theorem t135 {G : xG} : ∀ as m Q, S135 as m Q → Tri G 135 as m Q := by
  intro as m Q h
  match as, h with
  | [.ref o, .ref c, .int b, .int a], h => exact tri_wp (T := TT [(130, S130), (136, S136), (243, S243)]) (ls := [.ref o, .ref c, .int b, .int a]) (TTc t130 (TTc t136 (TTc t243 TTn))) c135 (by decide +kernel) (rt0 := some .long) rfl rfl (Nat.le_of_ble_eq_true rfl) rfl h

def S229 (as : List Value) (m : xM) (Q : xQt) : Prop := match as with
  | [.ref o, .int a] => (o = 86) ∧ (vp_in (m.1 86 31) 16) ∧ (¬ 16 ≤ m.1 86 31) ∧ Q (none) (xa (xa m 80 (upd (m.1 80) (ix (m.1 86 31)) a)) 86 (upd (m.1 86) 31 (m.1 86 31 + 1)))
  | _ => False
theorem s229 (o : Nat) (a : Int32) (m : xM) (Q : xQt) : S229 [.ref o, .int a] m Q = ((o = 86) ∧ (vp_in (m.1 86 31) 16) ∧ (¬ 16 ≤ m.1 86 31) ∧ Q (none) (xa (xa m 80 (upd (m.1 80) (ix (m.1 86 31)) a)) 86 (upd (m.1 86) 31 (m.1 86 31 + 1)))) := rfl
theorem t229 {G : xG} : ∀ as m Q, S229 as m Q → Tri G 229 as m Q := by
  intro as m Q h
  match as, h with
  | [.ref o, .int a], h =>
    obtain ⟨rfl, hv, h1, h⟩ := h
    refine tri_wp (T := TT []) (ls := [.ref 86, .int a]) TTn c229 (by decide +kernel) (rt0 := none) rfl rfl (Nat.le_of_ble_eq_true rfl) rfl ?_
    simp only [i229, wp_iinc, wpE0, wpE1, wpE2, wpE3, wpE4, wpE5, wpJ, okS, lt4S, popR, litS, Int32.reduceLT, Int32.reduceLE, List.getElem?_cons_zero, List.getElem?_cons_succ, Bool.false_eq_true, ↓reduceIte, Nat.reduceMod, Nat.reduceDiv, Nat.reduceAdd, Nat.reduceSub, Nat.reduceMul, Nat.reduceLeDiff, Nat.reduceEqDiff, Nat.reduceBEq, Int.reduceToNat, Int.reduceAdd, Int32.reduceOfInt, Int64.reduceOfInt, Int32.reduceToNatClampNeg, Int32.reduceOfNat, Bool.or_self, Bool.or_false, Bool.false_or, Bool.true_or, Bool.or_true, true_and, and_true, false_and, and_false, List.set_cons_zero, List.set_cons_succ, List.take_succ_cons, List.take_zero, List.drop_succ_cons, List.drop_zero, List.reverse_cons, List.reverse_nil, List.nil_append, List.cons_append, List.length_cons, List.length_nil, Option.toList_some, Option.toList_none, not_true_eq_false, not_false_eq_true, forall_const, true_implies, false_implies, nrw, TTS, shM, xa_1, Nat.reduceEqDiff, ↓reduceIte, not_true_eq_false, not_false_eq_true, and_true, true_and, and_false, false_and, and_self, or_true, true_or, or_false, false_or, ↓reduceIte, if_true, if_false, eq_self, hv, h1]
    exact h

def S230 (as : List Value) (m : xM) (Q : xQt) : Prop := match as with
  | [.ref o, .int a] => wp (fun _ _ _ _ => False) (fun _ => false) Q (some .int) (TT [(229, S229)]) none i230 [.ref o, .int a] [] m
  | _ => False
theorem s230 (o : Nat) (a : Int32) (m : xM) (Q : xQt) : S230 [.ref o, .int a] m Q = wp (fun _ _ _ _ => False) (fun _ => false) Q (some .int) (TT [(229, S229)]) none i230 [.ref o, .int a] [] m := rfl
theorem t230 {G : xG} : ∀ as m Q, S230 as m Q → Tri G 230 as m Q := by
  intro as m Q h
  match as, h with
  | [.ref o, .int a], h => exact tri_wp (T := TT [(229, S229)]) (ls := [.ref o, .int a]) (TTc t229 TTn) c230 (by decide +kernel) (rt0 := some .int) rfl rfl (Nat.le_of_ble_eq_true rfl) rfl h

def S231 (as : List Value) (m : xM) (Q : xQt) : Prop := match as with
  | [.ref o, .int a, .int a2] => wp (fun _ _ _ _ => False) (fun _ => false) Q (some .int) (TT [(229, S229)]) none i231 [.ref o, .int a, .int a2] [] m
  | _ => False
theorem s231 (o : Nat) (a : Int32) (a2 : Int32) (m : xM) (Q : xQt) : S231 [.ref o, .int a, .int a2] m Q = wp (fun _ _ _ _ => False) (fun _ => false) Q (some .int) (TT [(229, S229)]) none i231 [.ref o, .int a, .int a2] [] m := rfl
theorem t231 {G : xG} : ∀ as m Q, S231 as m Q → Tri G 231 as m Q := by
  intro as m Q h
  match as, h with
  | [.ref o, .int a, .int a2], h => exact tri_wp (T := TT [(229, S229)]) (ls := [.ref o, .int a, .int a2]) (TTc t229 TTn) c231 (by decide +kernel) (rt0 := some .int) rfl rfl (Nat.le_of_ble_eq_true rfl) rfl h

def S228 (as : List Value) (m : xM) (Q : xQt) : Prop := match as with
  | [.ref o, .int a, .int a2] => wp (fun _ _ _ _ => False) (fun _ => false) Q (some .int) (TT [(229, S229), (230, S230), (231, S231)]) none i228 [.ref o, .int a, .int a2, .null] [] m
  | _ => False
theorem s228 (o : Nat) (a : Int32) (a2 : Int32) (m : xM) (Q : xQt) : S228 [.ref o, .int a, .int a2] m Q = wp (fun _ _ _ _ => False) (fun _ => false) Q (some .int) (TT [(229, S229), (230, S230), (231, S231)]) none i228 [.ref o, .int a, .int a2, .null] [] m := rfl
theorem t228 {G : xG} : ∀ as m Q, S228 as m Q → Tri G 228 as m Q := by
  intro as m Q h
  match as, h with
  | [.ref o, .int a, .int a2], h => exact tri_wp (T := TT [(229, S229), (230, S230), (231, S231)]) (ls := [.ref o, .int a, .int a2, .null]) (TTc t229 (TTc t230 (TTc t231 TTn))) c228 (by decide +kernel) (rt0 := some .int) rfl rfl (Nat.le_of_ble_eq_true rfl) rfl h

def S232 (as : List Value) (m : xM) (Q : xQt) : Prop := match as with
  | [.ref o, .int a, .int a2] => wp (fun _ _ _ _ => False) (fun _ => false) Q (some .int) (TT [(229, S229), (230, S230)]) none i232 [.ref o, .int a, .int a2] [] m
  | _ => False
theorem s232 (o : Nat) (a : Int32) (a2 : Int32) (m : xM) (Q : xQt) : S232 [.ref o, .int a, .int a2] m Q = wp (fun _ _ _ _ => False) (fun _ => false) Q (some .int) (TT [(229, S229), (230, S230)]) none i232 [.ref o, .int a, .int a2] [] m := rfl
theorem t232 {G : xG} : ∀ as m Q, S232 as m Q → Tri G 232 as m Q := by
  intro as m Q h
  match as, h with
  | [.ref o, .int a, .int a2], h => exact tri_wp (T := TT [(229, S229), (230, S230)]) (ls := [.ref o, .int a, .int a2]) (TTc t229 (TTc t230 TTn)) c232 (by decide +kernel) (rt0 := some .int) rfl rfl (Nat.le_of_ble_eq_true rfl) rfl h

def S233 (as : List Value) (m : xM) (Q : xQt) : Prop := match as with
  | [.ref o, .int a, .int a2] => wp (fun _ _ _ _ => False) (fun _ => false) Q (some .int) (TT [(229, S229), (232, S232)]) none i233 [.ref o, .int a, .int a2, .null] [] m
  | _ => False
theorem s233 (o : Nat) (a : Int32) (a2 : Int32) (m : xM) (Q : xQt) : S233 [.ref o, .int a, .int a2] m Q = wp (fun _ _ _ _ => False) (fun _ => false) Q (some .int) (TT [(229, S229), (232, S232)]) none i233 [.ref o, .int a, .int a2, .null] [] m := rfl
theorem t233 {G : xG} : ∀ as m Q, S233 as m Q → Tri G 233 as m Q := by
  intro as m Q h
  match as, h with
  | [.ref o, .int a, .int a2], h => exact tri_wp (T := TT [(229, S229), (232, S232)]) (ls := [.ref o, .int a, .int a2, .null]) (TTc t229 (TTc t232 TTn)) c233 (by decide +kernel) (rt0 := some .int) rfl rfl (Nat.le_of_ble_eq_true rfl) rfl h

theorem bm64 {x : Int} (h1 : -9223372036854775808 ≤ x) (h2 : x < 9223372036854775808) : Int.bmod x (2 ^ 64) = x := by
  have e : (2 ^ 64 : Nat) = 18446744073709551616 := by decide
  rw [e]
  dsimp only [Int.bmod]
  split <;> omega
theorem bm32 {x : Int} (h1 : -2147483648 ≤ x) (h2 : x < 2147483648) : Int.bmod x (2 ^ 32) = x := by
  have e : (2 ^ 32 : Nat) = 4294967296 := by decide
  rw [e]
  dsimp only [Int.bmod]
  split <;> omega
theorem lI : (2 : Int64).toInt = 2 ∧ (1000 : Int64).toInt = 1000 ∧ (500 : Int64).toInt = 500 ∧ (2 : Int32).toInt = 2 ∧ (1000 : Int32).toInt = 1000 ∧ (500 : Int32).toInt = 500 ∧ (0 : Int32).toInt = 0 := by decide

theorem ask1 {w b y : Int32} (hw : bt w 0 70) (hb : bt b 0 6) (hy : bt y 0 100) : w.toInt64 + (b.toInt64 + y.toInt64) = (w + (b + y - 0)).toInt64 := by
  obtain ⟨w1, w2⟩ := hw
  obtain ⟨b1, b2⟩ := hb
  obtain ⟨y1, y2⟩ := hy
  apply Int64.toInt_inj.mp
  simp (disch := omega) only [Int64.toInt_add, Int64.toInt_sub, Int64.toInt_mul, Int64.toInt_neg, Int32.toInt_toInt64, Int32.toInt_add, Int32.toInt_sub, Int32.toInt_mul, Int32.toInt_neg, lI, bm64, bm32]
  try omega
theorem ask2 {w b y : Int32} (hw : bt w 0 70) (hb : bt b 0 6) (hy : bt y 0 100) : 2 * (w.toInt64 + (b.toInt64 + y.toInt64)) = (2 * (w + (b + y - 0))).toInt64 := by
  obtain ⟨w1, w2⟩ := hw
  obtain ⟨b1, b2⟩ := hb
  obtain ⟨y1, y2⟩ := hy
  apply Int64.toInt_inj.mp
  simp (disch := omega) only [Int64.toInt_add, Int64.toInt_sub, Int64.toInt_mul, Int64.toInt_neg, Int32.toInt_toInt64, Int32.toInt_add, Int32.toInt_sub, Int32.toInt_mul, Int32.toInt_neg, lI, bm64, bm32]
  try omega
theorem ask3 {w b y : Int32} (hw : bt w 0 70) (hb : bt b 0 6) (hy : bt y 0 100) : 2 * (w.toInt64 + (b.toInt64 + y.toInt64 - 500)) + 1000 = (2 * (w + (b + y - 500)) + 1000).toInt64 := by
  obtain ⟨w1, w2⟩ := hw
  obtain ⟨b1, b2⟩ := hb
  obtain ⟨y1, y2⟩ := hy
  apply Int64.toInt_inj.mp
  simp (disch := omega) only [Int64.toInt_add, Int64.toInt_sub, Int64.toInt_mul, Int64.toInt_neg, Int32.toInt_toInt64, Int32.toInt_add, Int32.toInt_sub, Int32.toInt_mul, Int32.toInt_neg, lI, bm64, bm32]
  try omega
theorem ask4 {w b y : Int32} (hw : bt w 0 70) (hb : bt b 0 6) (hy : bt y 0 100) : b.toInt64 + y.toInt64 = (b + y - 0).toInt64 := by
  obtain ⟨w1, w2⟩ := hw
  obtain ⟨b1, b2⟩ := hb
  obtain ⟨y1, y2⟩ := hy
  apply Int64.toInt_inj.mp
  simp (disch := omega) only [Int64.toInt_add, Int64.toInt_sub, Int64.toInt_mul, Int64.toInt_neg, Int32.toInt_toInt64, Int32.toInt_add, Int32.toInt_sub, Int32.toInt_mul, Int32.toInt_neg, lI, bm64, bm32]
  try omega
theorem ask5 {w b y : Int32} (hw : bt w 0 70) (hb : bt b 0 6) (hy : bt y 0 100) : b.toInt64 + y.toInt64 - 500 = (b + y - 500).toInt64 := by
  obtain ⟨w1, w2⟩ := hw
  obtain ⟨b1, b2⟩ := hb
  obtain ⟨y1, y2⟩ := hy
  apply Int64.toInt_inj.mp
  simp (disch := omega) only [Int64.toInt_add, Int64.toInt_sub, Int64.toInt_mul, Int64.toInt_neg, Int32.toInt_toInt64, Int32.toInt_add, Int32.toInt_sub, Int32.toInt_mul, Int32.toInt_neg, lI, bm64, bm32]
  try omega
theorem ask6 {w b y : Int32} (hw : bt w 0 70) (hb : bt b 0 6) (hy : bt y 0 100) : b.toInt64 - w.toInt64 = (b - w).toInt64 := by
  obtain ⟨w1, w2⟩ := hw
  obtain ⟨b1, b2⟩ := hb
  obtain ⟨y1, y2⟩ := hy
  apply Int64.toInt_inj.mp
  simp (disch := omega) only [Int64.toInt_add, Int64.toInt_sub, Int64.toInt_mul, Int64.toInt_neg, Int32.toInt_toInt64, Int32.toInt_add, Int32.toInt_sub, Int32.toInt_mul, Int32.toInt_neg, lI, bm64, bm32]
  try omega
theorem ask7 {w b y : Int32} (hw : bt w 0 70) (hb : bt b 0 6) (hy : bt y 0 100) : b.toInt64 + -w.toInt64 = (b + -w).toInt64 := by
  obtain ⟨w1, w2⟩ := hw
  obtain ⟨b1, b2⟩ := hb
  obtain ⟨y1, y2⟩ := hy
  apply Int64.toInt_inj.mp
  simp (disch := omega) only [Int64.toInt_add, Int64.toInt_sub, Int64.toInt_mul, Int64.toInt_neg, Int32.toInt_toInt64, Int32.toInt_add, Int32.toInt_sub, Int32.toInt_mul, Int32.toInt_neg, lI, bm64, bm32]
  try omega
theorem ask8 {w b y : Int32} (hw : bt w 0 70) (hb : bt b 0 6) (hy : bt y 0 100) : -w.toInt64 = (-w).toInt64 := by
  obtain ⟨w1, w2⟩ := hw
  obtain ⟨b1, b2⟩ := hb
  obtain ⟨y1, y2⟩ := hy
  apply Int64.toInt_inj.mp
  simp (disch := omega) only [Int64.toInt_add, Int64.toInt_sub, Int64.toInt_mul, Int64.toInt_neg, Int32.toInt_toInt64, Int32.toInt_add, Int32.toInt_sub, Int32.toInt_mul, Int32.toInt_neg, lI, bm64, bm32]
  try omega
