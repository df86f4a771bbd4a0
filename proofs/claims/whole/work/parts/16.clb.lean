theorem in_of {b N : Int32} {n : Nat} (h0 : ¬ b < 0) (h : ¬ N ≤ b) (hN : N ≤ nI n) (hn : n < 2 ^ 31) : vp_in b n := by
  obtain ⟨e, e2⟩ := ix_of h0
  rw [e, ix_le _ e2] at h
  have := ix_max hN hn
  exact xin h0 (by omega)
def S63 (as : List Value) (m : xM) (Q : xQt) : Prop := match as with
  | [.ref c] => (isC c) ∧ Q (some (.int (bI (m.1 c 4 = 0)))) (m)
  | _ => False
theorem s63 (c : Nat) (m : xM) (Q : xQt) : S63 [.ref c] m Q = ((isC c) ∧ Q (some (.int (bI (m.1 c 4 = 0)))) (m)) := rfl
theorem t63 {G : xG} : ∀ as m Q, S63 as m Q → Tri G 63 as m Q := by
  intro as m Q h
  match as, h with
  | [.ref c], h =>
    obtain ⟨hc, h⟩ := h
    refine tri_wp (T := TT []) (ls := [.ref c]) TTn c63 (by decide +kernel) (rt0 := some .boolean) rfl rfl (Nat.le_of_ble_eq_true rfl) rfl ?_
    simp only [i63, wp_iinc, wpE0, wpE1, wpE2, wpE3, wpE4, wpE5, wpJ, okS, lt4S, popR, litS, Int32.reduceLT, Int32.reduceLE, List.getElem?_cons_zero, List.getElem?_cons_succ, Bool.false_eq_true, ↓reduceIte, Nat.reduceMod, Nat.reduceDiv, Nat.reduceAdd, Nat.reduceSub, Nat.reduceMul, Nat.reduceLeDiff, Nat.reduceEqDiff, Nat.reduceBEq, Int.reduceToNat, Int.reduceAdd, Int32.reduceOfInt, Int64.reduceOfInt, Int32.reduceToNatClampNeg, Int32.reduceOfNat, Bool.or_self, Bool.or_false, Bool.false_or, Bool.true_or, Bool.or_true, true_and, and_true, false_and, and_false, List.set_cons_zero, List.set_cons_succ, List.take_succ_cons, List.take_zero, List.drop_succ_cons, List.drop_zero, List.reverse_cons, List.reverse_nil, List.nil_append, List.cons_append, List.length_cons, List.length_nil, Option.toList_some, Option.toList_none, not_true_eq_false, not_false_eq_true, forall_const, true_implies, false_implies, nrw, TTS, shC hc, and01, isCl, hc]
    repeat' (first | apply And.intro | intro _)
    all_goals first | trivial | exact h | (simp only [*, bI, ix, not_true_eq_false, not_false_eq_true, and_true, true_and, and_false, false_and, and_self, or_true, true_or, or_false, false_or, ↓reduceIte, if_true, if_false, eq_self] at h; exact h) | (simp only [*, not_true_eq_false, not_false_eq_true, and_true, true_and, and_false, false_and, and_self, or_true, true_or, or_false, false_or, ↓reduceIte, if_true, if_false, eq_self]; done)

def S59 (as : List Value) (m : xM) (Q : xQt) : Prop := match as with
  | [.ref c, .int b] => (isC c) ∧ Q (some (.int (bI (¬ b < 0 ∧ ¬ m.1 c 4 ≤ b)))) (m)
  | _ => False
theorem s59 (c : Nat) (b : Int32) (m : xM) (Q : xQt) : S59 [.ref c, .int b] m Q = ((isC c) ∧ Q (some (.int (bI (¬ b < 0 ∧ ¬ m.1 c 4 ≤ b)))) (m)) := rfl
theorem t59 {G : xG} : ∀ as m Q, S59 as m Q → Tri G 59 as m Q := by
  intro as m Q h
  match as, h with
  | [.ref c, .int b], h =>
    obtain ⟨hc, h⟩ := h
    refine tri_wp (T := TT []) (ls := [.ref c, .int b]) TTn c59 (by decide +kernel) (rt0 := some .boolean) rfl rfl (Nat.le_of_ble_eq_true rfl) rfl ?_
    simp only [i59, wp_iinc, wpE0, wpE1, wpE2, wpE3, wpE4, wpE5, wpJ, okS, lt4S, popR, litS, Int32.reduceLT, Int32.reduceLE, List.getElem?_cons_zero, List.getElem?_cons_succ, Bool.false_eq_true, ↓reduceIte, Nat.reduceMod, Nat.reduceDiv, Nat.reduceAdd, Nat.reduceSub, Nat.reduceMul, Nat.reduceLeDiff, Nat.reduceEqDiff, Nat.reduceBEq, Int.reduceToNat, Int.reduceAdd, Int32.reduceOfInt, Int64.reduceOfInt, Int32.reduceToNatClampNeg, Int32.reduceOfNat, Bool.or_self, Bool.or_false, Bool.false_or, Bool.true_or, Bool.or_true, true_and, and_true, false_and, and_false, List.set_cons_zero, List.set_cons_succ, List.take_succ_cons, List.take_zero, List.drop_succ_cons, List.drop_zero, List.reverse_cons, List.reverse_nil, List.nil_append, List.cons_append, List.length_cons, List.length_nil, Option.toList_some, Option.toList_none, not_true_eq_false, not_false_eq_true, forall_const, true_implies, false_implies, nrw, TTS, shC hc, and01, isCl, hc]
    repeat' (first | apply And.intro | intro _)
    all_goals first | trivial | exact h | (simp only [*, bI, ix, not_true_eq_false, not_false_eq_true, and_true, true_and, and_false, false_and, and_self, or_true, true_or, or_false, false_or, ↓reduceIte, if_true, if_false, eq_self] at h; exact h) | (simp only [*, not_true_eq_false, not_false_eq_true, and_true, true_and, and_false, false_and, and_self, or_true, true_or, or_false, false_or, ↓reduceIte, if_true, if_false, eq_self]; done)

def S55 (as : List Value) (m : xM) (Q : xQt) : Prop := match as with
  | [.ref c, .int b] => (isC c) ∧ Q (some (.int (bI (¬ b < 0 ∧ ¬ m.1 c 5 ≤ b)))) (m)
  | _ => False
theorem s55 (c : Nat) (b : Int32) (m : xM) (Q : xQt) : S55 [.ref c, .int b] m Q = ((isC c) ∧ Q (some (.int (bI (¬ b < 0 ∧ ¬ m.1 c 5 ≤ b)))) (m)) := rfl
theorem t55 {G : xG} : ∀ as m Q, S55 as m Q → Tri G 55 as m Q := by
  intro as m Q h
  match as, h with
  | [.ref c, .int b], h =>
    obtain ⟨hc, h⟩ := h
    refine tri_wp (T := TT []) (ls := [.ref c, .int b]) TTn c55 (by decide +kernel) (rt0 := some .boolean) rfl rfl (Nat.le_of_ble_eq_true rfl) rfl ?_
    simp only [i55, wp_iinc, wpE0, wpE1, wpE2, wpE3, wpE4, wpE5, wpJ, okS, lt4S, popR, litS, Int32.reduceLT, Int32.reduceLE, List.getElem?_cons_zero, List.getElem?_cons_succ, Bool.false_eq_true, ↓reduceIte, Nat.reduceMod, Nat.reduceDiv, Nat.reduceAdd, Nat.reduceSub, Nat.reduceMul, Nat.reduceLeDiff, Nat.reduceEqDiff, Nat.reduceBEq, Int.reduceToNat, Int.reduceAdd, Int32.reduceOfInt, Int64.reduceOfInt, Int32.reduceToNatClampNeg, Int32.reduceOfNat, Bool.or_self, Bool.or_false, Bool.false_or, Bool.true_or, Bool.or_true, true_and, and_true, false_and, and_false, List.set_cons_zero, List.set_cons_succ, List.take_succ_cons, List.take_zero, List.drop_succ_cons, List.drop_zero, List.reverse_cons, List.reverse_nil, List.nil_append, List.cons_append, List.length_cons, List.length_nil, Option.toList_some, Option.toList_none, not_true_eq_false, not_false_eq_true, forall_const, true_implies, false_implies, nrw, TTS, shC hc, and01, isCl, hc]
    repeat' (first | apply And.intro | intro _)
    all_goals first | trivial | exact h | (simp only [*, bI, ix, not_true_eq_false, not_false_eq_true, and_true, true_and, and_false, false_and, and_self, or_true, true_or, or_false, false_or, ↓reduceIte, if_true, if_false, eq_self] at h; exact h) | (simp only [*, not_true_eq_false, not_false_eq_true, and_true, true_and, and_false, false_and, and_self, or_true, true_or, or_false, false_or, ↓reduceIte, if_true, if_false, eq_self]; done)

def S56 (as : List Value) (m : xM) (Q : xQt) : Prop := match as with
  | [.ref c, .int b] => (isC c) ∧ (vp_in b 12) ∧ Q (some (.int (bI (¬ m.1 (c + 13) (ix b) ≤ 0)))) (m)
  | _ => False
theorem s56 (c : Nat) (b : Int32) (m : xM) (Q : xQt) : S56 [.ref c, .int b] m Q = ((isC c) ∧ (vp_in b 12) ∧ Q (some (.int (bI (¬ m.1 (c + 13) (ix b) ≤ 0)))) (m)) := rfl
theorem t56 {G : xG} : ∀ as m Q, S56 as m Q → Tri G 56 as m Q := by
  intro as m Q h
  match as, h with
  | [.ref c, .int b], h =>
    obtain ⟨hc, hb, h⟩ := h
    refine tri_wp (T := TT []) (ls := [.ref c, .int b]) TTn c56 (by decide +kernel) (rt0 := some .boolean) rfl rfl (Nat.le_of_ble_eq_true rfl) rfl ?_
    simp only [i56, wp_iinc, wpE0, wpE1, wpE2, wpE3, wpE4, wpE5, wpJ, okS, lt4S, popR, litS, Int32.reduceLT, Int32.reduceLE, List.getElem?_cons_zero, List.getElem?_cons_succ, Bool.false_eq_true, ↓reduceIte, Nat.reduceMod, Nat.reduceDiv, Nat.reduceAdd, Nat.reduceSub, Nat.reduceMul, Nat.reduceLeDiff, Nat.reduceEqDiff, Nat.reduceBEq, Int.reduceToNat, Int.reduceAdd, Int32.reduceOfInt, Int64.reduceOfInt, Int32.reduceToNatClampNeg, Int32.reduceOfNat, Bool.or_self, Bool.or_false, Bool.false_or, Bool.true_or, Bool.or_true, true_and, and_true, false_and, and_false, List.set_cons_zero, List.set_cons_succ, List.take_succ_cons, List.take_zero, List.drop_succ_cons, List.drop_zero, List.reverse_cons, List.reverse_nil, List.nil_append, List.cons_append, List.length_cons, List.length_nil, Option.toList_some, Option.toList_none, not_true_eq_false, not_false_eq_true, forall_const, true_implies, false_implies, nrw, TTS, shC hc, and01, isCl, hc, hb]
    repeat' (first | apply And.intro | intro _)
    all_goals first | trivial | exact h | (simp only [*, bI, ix, not_true_eq_false, not_false_eq_true, and_true, true_and, and_false, false_and, and_self, or_true, true_or, or_false, false_or, ↓reduceIte, if_true, if_false, eq_self] at h; exact h) | (simp only [*, not_true_eq_false, not_false_eq_true, and_true, true_and, and_false, false_and, and_self, or_true, true_or, or_false, false_or, ↓reduceIte, if_true, if_false, eq_self]; done)

def S57 (as : List Value) (m : xM) (Q : xQt) : Prop := match as with
  | [.ref c, .int b] => (isC c) ∧ (vp_in b 6) ∧ Q (some (.int (bI (¬ m.1 (c + 5) (ix b) = 0 ∧ ¬ m.1 (c + 5) (ix b) = 4)))) (m)
  | _ => False
theorem s57 (c : Nat) (b : Int32) (m : xM) (Q : xQt) : S57 [.ref c, .int b] m Q = ((isC c) ∧ (vp_in b 6) ∧ Q (some (.int (bI (¬ m.1 (c + 5) (ix b) = 0 ∧ ¬ m.1 (c + 5) (ix b) = 4)))) (m)) := rfl
theorem t57 {G : xG} : ∀ as m Q, S57 as m Q → Tri G 57 as m Q := by
  intro as m Q h
  match as, h with
  | [.ref c, .int b], h =>
    obtain ⟨hc, hb, h⟩ := h
    refine tri_wp (T := TT []) (ls := [.ref c, .int b]) TTn c57 (by decide +kernel) (rt0 := some .boolean) rfl rfl (Nat.le_of_ble_eq_true rfl) rfl ?_
    simp only [i57, wp_iinc, wpE0, wpE1, wpE2, wpE3, wpE4, wpE5, wpJ, okS, lt4S, popR, litS, Int32.reduceLT, Int32.reduceLE, List.getElem?_cons_zero, List.getElem?_cons_succ, Bool.false_eq_true, ↓reduceIte, Nat.reduceMod, Nat.reduceDiv, Nat.reduceAdd, Nat.reduceSub, Nat.reduceMul, Nat.reduceLeDiff, Nat.reduceEqDiff, Nat.reduceBEq, Int.reduceToNat, Int.reduceAdd, Int32.reduceOfInt, Int64.reduceOfInt, Int32.reduceToNatClampNeg, Int32.reduceOfNat, Bool.or_self, Bool.or_false, Bool.false_or, Bool.true_or, Bool.or_true, true_and, and_true, false_and, and_false, List.set_cons_zero, List.set_cons_succ, List.take_succ_cons, List.take_zero, List.drop_succ_cons, List.drop_zero, List.reverse_cons, List.reverse_nil, List.nil_append, List.cons_append, List.length_cons, List.length_nil, Option.toList_some, Option.toList_none, not_true_eq_false, not_false_eq_true, forall_const, true_implies, false_implies, nrw, TTS, shC hc, and01, isCl, hc, hb]
    repeat' (first | apply And.intro | intro _)
    all_goals first | trivial | exact h | (simp only [*, bI, ix, not_true_eq_false, not_false_eq_true, and_true, true_and, and_false, false_and, and_self, or_true, true_or, or_false, false_or, ↓reduceIte, if_true, if_false, eq_self] at h; exact h) | (simp only [*, not_true_eq_false, not_false_eq_true, and_true, true_and, and_false, false_and, and_self, or_true, true_or, or_false, false_or, ↓reduceIte, if_true, if_false, eq_self]; done)

def S69 (as : List Value) (m : xM) (Q : xQt) : Prop := match as with
  | [.ref c, .int b, .int a, .int w] => (isC c) ∧ (vp_in b 6) ∧ Q (some (.int (10 * m.1 (c + 2) (ix b) + a + (if w = 0 then 2 * m.1 c 1 else 0)))) (m)
  | _ => False
theorem s69 (c : Nat) (b : Int32) (a : Int32) (w : Int32) (m : xM) (Q : xQt) : S69 [.ref c, .int b, .int a, .int w] m Q = ((isC c) ∧ (vp_in b 6) ∧ Q (some (.int (10 * m.1 (c + 2) (ix b) + a + (if w = 0 then 2 * m.1 c 1 else 0)))) (m)) := rfl
theorem t69 {G : xG} : ∀ as m Q, S69 as m Q → Tri G 69 as m Q := by
  intro as m Q h
  match as, h with
  | [.ref c, .int b, .int a, .int w], h =>
    obtain ⟨hc, hb, h⟩ := h
    refine tri_wp (T := TT []) (ls := [.ref c, .int b, .int a, .int w]) TTn c69 (by decide +kernel) (rt0 := some .int) rfl rfl (Nat.le_of_ble_eq_true rfl) rfl ?_
    simp only [i69, wp_iinc, wpE0, wpE1, wpE2, wpE3, wpE4, wpE5, wpJ, okS, lt4S, popR, litS, Int32.reduceLT, Int32.reduceLE, List.getElem?_cons_zero, List.getElem?_cons_succ, Bool.false_eq_true, ↓reduceIte, Nat.reduceMod, Nat.reduceDiv, Nat.reduceAdd, Nat.reduceSub, Nat.reduceMul, Nat.reduceLeDiff, Nat.reduceEqDiff, Nat.reduceBEq, Int.reduceToNat, Int.reduceAdd, Int32.reduceOfInt, Int64.reduceOfInt, Int32.reduceToNatClampNeg, Int32.reduceOfNat, Bool.or_self, Bool.or_false, Bool.false_or, Bool.true_or, Bool.or_true, true_and, and_true, false_and, and_false, List.set_cons_zero, List.set_cons_succ, List.take_succ_cons, List.take_zero, List.drop_succ_cons, List.drop_zero, List.reverse_cons, List.reverse_nil, List.nil_append, List.cons_append, List.length_cons, List.length_nil, Option.toList_some, Option.toList_none, not_true_eq_false, not_false_eq_true, forall_const, true_implies, false_implies, nrw, TTS, shC hc, and01, isCl, hc, hb]
    repeat' (first | apply And.intro | intro _)
    all_goals first | trivial | exact h | (simp only [*, bI, ix, not_true_eq_false, not_false_eq_true, and_true, true_and, and_false, false_and, and_self, or_true, true_or, or_false, false_or, ↓reduceIte, if_true, if_false, eq_self] at h; exact h) | (simp only [*, not_true_eq_false, not_false_eq_true, and_true, true_and, and_false, false_and, and_self, or_true, true_or, or_false, false_or, ↓reduceIte, if_true, if_false, eq_self]; done)

def S72 (as : List Value) (m : xM) (Q : xQt) : Prop := match as with
  | [.ref c, .int b, .int w] => (isC c) ∧ (vp_in b 6) ∧ Q (some (.int (w * m.1 (c + 1) (ix b) / 10))) (m)
  | _ => False
theorem s72 (c : Nat) (b : Int32) (w : Int32) (m : xM) (Q : xQt) : S72 [.ref c, .int b, .int w] m Q = ((isC c) ∧ (vp_in b 6) ∧ Q (some (.int (w * m.1 (c + 1) (ix b) / 10))) (m)) := rfl
theorem t72 {G : xG} : ∀ as m Q, S72 as m Q → Tri G 72 as m Q := by
  intro as m Q h
  match as, h with
  | [.ref c, .int b, .int w], h =>
    obtain ⟨hc, hb, h⟩ := h
    refine tri_wp (T := TT []) (ls := [.ref c, .int b, .int w]) TTn c72 (by decide +kernel) (rt0 := some .int) rfl rfl (Nat.le_of_ble_eq_true rfl) rfl ?_
    simp only [i72, wp_iinc, wpE0, wpE1, wpE2, wpE3, wpE4, wpE5, wpJ, okS, lt4S, popR, litS, Int32.reduceLT, Int32.reduceLE, List.getElem?_cons_zero, List.getElem?_cons_succ, Bool.false_eq_true, ↓reduceIte, Nat.reduceMod, Nat.reduceDiv, Nat.reduceAdd, Nat.reduceSub, Nat.reduceMul, Nat.reduceLeDiff, Nat.reduceEqDiff, Nat.reduceBEq, Int.reduceToNat, Int.reduceAdd, Int32.reduceOfInt, Int64.reduceOfInt, Int32.reduceToNatClampNeg, Int32.reduceOfNat, Bool.or_self, Bool.or_false, Bool.false_or, Bool.true_or, Bool.or_true, true_and, and_true, false_and, and_false, List.set_cons_zero, List.set_cons_succ, List.take_succ_cons, List.take_zero, List.drop_succ_cons, List.drop_zero, List.reverse_cons, List.reverse_nil, List.nil_append, List.cons_append, List.length_cons, List.length_nil, Option.toList_some, Option.toList_none, not_true_eq_false, not_false_eq_true, forall_const, true_implies, false_implies, nrw, TTS, shC hc, and01, isCl, ne10, hc, hb]
    repeat' (first | apply And.intro | intro _)
    all_goals first | trivial | exact h | (simp only [*, bI, ix, not_true_eq_false, not_false_eq_true, and_true, true_and, and_false, false_and, and_self, or_true, true_or, or_false, false_or, ↓reduceIte, if_true, if_false, eq_self] at h; exact h) | (simp only [*, not_true_eq_false, not_false_eq_true, and_true, true_and, and_false, false_and, and_self, or_true, true_or, or_false, false_or, ↓reduceIte, if_true, if_false, eq_self]; done)

def S85 (as : List Value) (m : xM) (Q : xQt) : Prop := match as with
  | [.ref c, .int b, .int w] => (isC c) ∧ (m.1 c 5 ≤ 12) ∧ Q (some (.int (bI ((¬ b < 0 ∧ ¬ m.1 c 5 ≤ b) ∧ m.1 (c + 9) (ix b) = w)))) (m)
  | _ => False
theorem s85 (c : Nat) (b : Int32) (w : Int32) (m : xM) (Q : xQt) : S85 [.ref c, .int b, .int w] m Q = ((isC c) ∧ (m.1 c 5 ≤ 12) ∧ Q (some (.int (bI ((¬ b < 0 ∧ ¬ m.1 c 5 ≤ b) ∧ m.1 (c + 9) (ix b) = w)))) (m)) := rfl
theorem t85 {G : xG} : ∀ as m Q, S85 as m Q → Tri G 85 as m Q := by
  intro as m Q h
  match as, h with
  | [.ref c, .int b, .int w], h =>
    obtain ⟨hc, hn, h⟩ := h
    refine tri_wp (T := TT [(55, S55)]) (ls := [.ref c, .int b, .int w]) (TTc t55 TTn) c85 (by decide +kernel) (rt0 := some .boolean) rfl rfl (Nat.le_of_ble_eq_true rfl) rfl ?_
    simp only [i85, wp_iinc, wpE0, wpE1, wpE2, wpE3, wpE4, wpE5, wpJ, okS, lt4S, popR, litS, Int32.reduceLT, Int32.reduceLE, List.getElem?_cons_zero, List.getElem?_cons_succ, Bool.false_eq_true, ↓reduceIte, Nat.reduceMod, Nat.reduceDiv, Nat.reduceAdd, Nat.reduceSub, Nat.reduceMul, Nat.reduceLeDiff, Nat.reduceEqDiff, Nat.reduceBEq, Int.reduceToNat, Int.reduceAdd, Int32.reduceOfInt, Int64.reduceOfInt, Int32.reduceToNatClampNeg, Int32.reduceOfNat, Bool.or_self, Bool.or_false, Bool.false_or, Bool.true_or, Bool.or_true, true_and, and_true, false_and, and_false, List.set_cons_zero, List.set_cons_succ, List.take_succ_cons, List.take_zero, List.drop_succ_cons, List.drop_zero, List.reverse_cons, List.reverse_nil, List.nil_append, List.cons_append, List.length_cons, List.length_nil, Option.toList_some, Option.toList_none, not_true_eq_false, not_false_eq_true, forall_const, true_implies, false_implies, nrw, TTS, s55, shC hc, and01, isCl, bI_0, hc, hn]
    refine ⟨fun q => ?_, fun q => ?_⟩
    · rw [bI_f (fun z => q z.1)] at h; exact h
    · have q := Classical.not_not.mp q
      have hv : vp_in b 12 := in_of q.1 q.2 hn (by decide)
      refine ⟨hv, fun z => ?_, fun z => ?_⟩
      · rw [bI_t ⟨q, z⟩] at h; exact h
      · rw [bI_f (fun y => z y.2)] at h; exact h

def S78 (as : List Value) (m : xM) (Q : xQt) : Prop := match as with
  | [.ref c, .int b] => (isC c) ∧ (m.1 c 5 ≤ 12) ∧ Q (some (.int (fd (fun h => if m.1 (c + 9) h = b ∧ m.1 (c + 12) h = 0 then m.1 (c + 10) h else 0) (ix (m.1 c 5))))) (m)
  | _ => False
theorem s78 (c : Nat) (b : Int32) (m : xM) (Q : xQt) : S78 [.ref c, .int b] m Q = ((isC c) ∧ (m.1 c 5 ≤ 12) ∧ Q (some (.int (fd (fun h => if m.1 (c + 9) h = b ∧ m.1 (c + 12) h = 0 then m.1 (c + 10) h else 0) (ix (m.1 c 5))))) (m)) := rfl
theorem t78 {G : xG} : ∀ as m Q, S78 as m Q → Tri G 78 as m Q := by
  intro as m Q h
  match as, h with
  | [.ref c, .int b], h =>
    obtain ⟨hc, hn, h⟩ := h
    refine tri_vc (ls := [.ref c, .int b, .null, .null]) (by decide +kernel) rfl (Nat.le_of_ble_eq_true rfl) ?_
    refine vc_seq (pc1 := 4) (ls1 := [.ref c, .int b, .int 0, .int 0]) (m1 := m) (vc_wp (T := TT []) TTn (fun p => p == 4) (rt0 := some .int) rfl c78 rfl ?_) ?_
    · simp only [i78, wp_iinc, wpE0, wpE1, wpE2, wpE3, wpE4, wpE5, wpJ, okS, lt4S, popR, litS, Int32.reduceLT, Int32.reduceLE, List.getElem?_cons_zero, List.getElem?_cons_succ, Bool.false_eq_true, ↓reduceIte, Nat.reduceMod, Nat.reduceDiv, Nat.reduceAdd, Nat.reduceSub, Nat.reduceMul, Nat.reduceLeDiff, Nat.reduceEqDiff, Nat.reduceBEq, Int.reduceToNat, Int.reduceAdd, Int32.reduceOfInt, Int64.reduceOfInt, Int32.reduceToNatClampNeg, Int32.reduceOfNat, Bool.or_self, Bool.or_false, Bool.false_or, Bool.true_or, Bool.or_true, true_and, and_true, false_and, and_false, List.set_cons_zero, List.set_cons_succ, List.take_succ_cons, List.take_zero, List.drop_succ_cons, List.drop_zero, List.reverse_cons, List.reverse_nil, List.nil_append, List.cons_append, List.length_cons, List.length_nil, Option.toList_some, Option.toList_none, not_true_eq_false, not_false_eq_true, forall_const, true_implies, false_implies, nrw, TTS, shC hc, and01, isCl, hc, hn, subS, true_and, and_true, true_or, or_false]
    refine vc_for (ix (m.1 c 5)) (fun i => [.ref c, .int b, .int (fd (fun h => if m.1 (c + 9) h = b ∧ m.1 (c + 12) h = 0 then m.1 (c + 10) h else 0) i), .int (nI i)]) (fun _ => m) (fun i hi => ?_) ?_
    · refine vc_wp (T := TT []) TTn (fun _ => false) (rt0 := some .int) rfl (ckl_drop 4 c78) rfl ?_
      have hi2 : ¬ (ix (m.1 c 5)) ≤ i := by omega
      have hi12 : i < 12 := by have := ix_max (k := 12) hn (by decide); omega
      have hi3 : vp_in (nI i) 12 := xin_nI hi12 (by omega)
      have hi4 : (nI i).toNatClampNeg = i := nI_clamp (by omega)
      simp only [List.drop, i78, wp_iinc, wpE0, wpE1, wpE2, wpE3, wpE4, wpE5, wpJ, okS, lt4S, popR, litS, Int32.reduceLT, Int32.reduceLE, List.getElem?_cons_zero, List.getElem?_cons_succ, Bool.false_eq_true, ↓reduceIte, Nat.reduceMod, Nat.reduceDiv, Nat.reduceAdd, Nat.reduceSub, Nat.reduceMul, Nat.reduceLeDiff, Nat.reduceEqDiff, Nat.reduceBEq, Int.reduceToNat, Int.reduceAdd, Int32.reduceOfInt, Int64.reduceOfInt, Int32.reduceToNatClampNeg, Int32.reduceOfNat, Bool.or_self, Bool.or_false, Bool.false_or, Bool.true_or, Bool.or_true, true_and, and_true, false_and, and_false, List.set_cons_zero, List.set_cons_succ, List.take_succ_cons, List.take_zero, List.drop_succ_cons, List.drop_zero, List.reverse_cons, List.reverse_nil, List.nil_append, List.cons_append, List.length_cons, List.length_nil, Option.toList_some, Option.toList_none, not_true_eq_false, not_false_eq_true, forall_const, true_implies, false_implies, nrw, TTS, shC hc, and01, isCl, hc, hn, subS, ix_le _ (show i < 2 ^ 31 by omega), hi2, hi3, hi4, not_true_eq_false, not_false_eq_true, and_true, true_and, and_false, false_and, and_self, or_true, true_or, or_false, false_or, ↓reduceIte, if_true, if_false, eq_self, nI_1, fd]
      repeat' (first | apply And.intro | intro _)
      all_goals (simp only [*, not_true_eq_false, not_false_eq_true, and_true, true_and, and_false, false_and, and_self, or_true, true_or, or_false, false_or, ↓reduceIte, if_true, if_false, eq_self, Int32.add_zero]; done)
    · refine vc_wp (T := TT []) TTn (fun _ => false) (rt0 := some .int) rfl (ckl_drop 4 c78) rfl ?_
      have hi2 : (ix (m.1 c 5)) ≤ (ix (m.1 c 5)) := Nat.le_refl _
      have hi12 : (ix (m.1 c 5)) < 2 ^ 31 := by have := ix_max (k := 12) hn (by decide); omega
      simp only [List.drop, i78, wp_iinc, wpE0, wpE1, wpE2, wpE3, wpE4, wpE5, wpJ, okS, lt4S, popR, litS, Int32.reduceLT, Int32.reduceLE, List.getElem?_cons_zero, List.getElem?_cons_succ, Bool.false_eq_true, ↓reduceIte, Nat.reduceMod, Nat.reduceDiv, Nat.reduceAdd, Nat.reduceSub, Nat.reduceMul, Nat.reduceLeDiff, Nat.reduceEqDiff, Nat.reduceBEq, Int.reduceToNat, Int.reduceAdd, Int32.reduceOfInt, Int64.reduceOfInt, Int32.reduceToNatClampNeg, Int32.reduceOfNat, Bool.or_self, Bool.or_false, Bool.false_or, Bool.true_or, Bool.or_true, true_and, and_true, false_and, and_false, List.set_cons_zero, List.set_cons_succ, List.take_succ_cons, List.take_zero, List.drop_succ_cons, List.drop_zero, List.reverse_cons, List.reverse_nil, List.nil_append, List.cons_append, List.length_cons, List.length_nil, Option.toList_some, Option.toList_none, not_true_eq_false, not_false_eq_true, forall_const, true_implies, false_implies, nrw, TTS, shC hc, and01, isCl, hc, hn, subS, ix_le _ hi12, hi2, not_true_eq_false, not_false_eq_true, and_true, true_and, and_false, false_and, and_self, or_true, true_or, or_false, false_or, ↓reduceIte, if_true, if_false, eq_self]
      exact h

def S51 (as : List Value) (m : xM) (Q : xQt) : Prop := match as with
  | [.ref c, .int b] => (isC c) ∧ (m.1 c 5 ≤ 12) ∧ Q (some (.int (fd (fun h => if m.1 (c + 9) h = b then 1 else 0) (ix (m.1 c 5))))) (m)
  | _ => False
theorem s51 (c : Nat) (b : Int32) (m : xM) (Q : xQt) : S51 [.ref c, .int b] m Q = ((isC c) ∧ (m.1 c 5 ≤ 12) ∧ Q (some (.int (fd (fun h => if m.1 (c + 9) h = b then 1 else 0) (ix (m.1 c 5))))) (m)) := rfl
theorem t51 {G : xG} : ∀ as m Q, S51 as m Q → Tri G 51 as m Q := by
  intro as m Q h
  match as, h with
  | [.ref c, .int b], h =>
    obtain ⟨hc, hn, h⟩ := h
    refine tri_vc (ls := [.ref c, .int b, .null, .null]) (by decide +kernel) rfl (Nat.le_of_ble_eq_true rfl) ?_
    refine vc_seq (pc1 := 4) (ls1 := [.ref c, .int b, .int 0, .int 0]) (m1 := m) (vc_wp (T := TT []) TTn (fun p => p == 4) (rt0 := some .int) rfl c51 rfl ?_) ?_
    · simp only [i51, wp_iinc, wpE0, wpE1, wpE2, wpE3, wpE4, wpE5, wpJ, okS, lt4S, popR, litS, Int32.reduceLT, Int32.reduceLE, List.getElem?_cons_zero, List.getElem?_cons_succ, Bool.false_eq_true, ↓reduceIte, Nat.reduceMod, Nat.reduceDiv, Nat.reduceAdd, Nat.reduceSub, Nat.reduceMul, Nat.reduceLeDiff, Nat.reduceEqDiff, Nat.reduceBEq, Int.reduceToNat, Int.reduceAdd, Int32.reduceOfInt, Int64.reduceOfInt, Int32.reduceToNatClampNeg, Int32.reduceOfNat, Bool.or_self, Bool.or_false, Bool.false_or, Bool.true_or, Bool.or_true, true_and, and_true, false_and, and_false, List.set_cons_zero, List.set_cons_succ, List.take_succ_cons, List.take_zero, List.drop_succ_cons, List.drop_zero, List.reverse_cons, List.reverse_nil, List.nil_append, List.cons_append, List.length_cons, List.length_nil, Option.toList_some, Option.toList_none, not_true_eq_false, not_false_eq_true, forall_const, true_implies, false_implies, nrw, TTS, shC hc, and01, isCl, hc, hn, subS, true_and, and_true, true_or, or_false]
    refine vc_for (ix (m.1 c 5)) (fun i => [.ref c, .int b, .int (fd (fun h => if m.1 (c + 9) h = b then 1 else 0) i), .int (nI i)]) (fun _ => m) (fun i hi => ?_) ?_
    · refine vc_wp (T := TT []) TTn (fun _ => false) (rt0 := some .int) rfl (ckl_drop 4 c51) rfl ?_
      have hi2 : ¬ (ix (m.1 c 5)) ≤ i := by omega
      have hi12 : i < 12 := by have := ix_max (k := 12) hn (by decide); omega
      have hi3 : vp_in (nI i) 12 := xin_nI hi12 (by omega)
      have hi4 : (nI i).toNatClampNeg = i := nI_clamp (by omega)
      simp only [List.drop, i51, wp_iinc, wpE0, wpE1, wpE2, wpE3, wpE4, wpE5, wpJ, okS, lt4S, popR, litS, Int32.reduceLT, Int32.reduceLE, List.getElem?_cons_zero, List.getElem?_cons_succ, Bool.false_eq_true, ↓reduceIte, Nat.reduceMod, Nat.reduceDiv, Nat.reduceAdd, Nat.reduceSub, Nat.reduceMul, Nat.reduceLeDiff, Nat.reduceEqDiff, Nat.reduceBEq, Int.reduceToNat, Int.reduceAdd, Int32.reduceOfInt, Int64.reduceOfInt, Int32.reduceToNatClampNeg, Int32.reduceOfNat, Bool.or_self, Bool.or_false, Bool.false_or, Bool.true_or, Bool.or_true, true_and, and_true, false_and, and_false, List.set_cons_zero, List.set_cons_succ, List.take_succ_cons, List.take_zero, List.drop_succ_cons, List.drop_zero, List.reverse_cons, List.reverse_nil, List.nil_append, List.cons_append, List.length_cons, List.length_nil, Option.toList_some, Option.toList_none, not_true_eq_false, not_false_eq_true, forall_const, true_implies, false_implies, nrw, TTS, shC hc, and01, isCl, hc, hn, subS, ix_le _ (show i < 2 ^ 31 by omega), hi2, hi3, hi4, not_true_eq_false, not_false_eq_true, and_true, true_and, and_false, false_and, and_self, or_true, true_or, or_false, false_or, ↓reduceIte, if_true, if_false, eq_self, nI_1, fd]
      repeat' (first | apply And.intro | intro _)
      all_goals (simp only [*, not_true_eq_false, not_false_eq_true, and_true, true_and, and_false, false_and, and_self, or_true, true_or, or_false, false_or, ↓reduceIte, if_true, if_false, eq_self, Int32.add_zero]; done)
    · refine vc_wp (T := TT []) TTn (fun _ => false) (rt0 := some .int) rfl (ckl_drop 4 c51) rfl ?_
      have hi2 : (ix (m.1 c 5)) ≤ (ix (m.1 c 5)) := Nat.le_refl _
      have hi12 : (ix (m.1 c 5)) < 2 ^ 31 := by have := ix_max (k := 12) hn (by decide); omega
      simp only [List.drop, i51, wp_iinc, wpE0, wpE1, wpE2, wpE3, wpE4, wpE5, wpJ, okS, lt4S, popR, litS, Int32.reduceLT, Int32.reduceLE, List.getElem?_cons_zero, List.getElem?_cons_succ, Bool.false_eq_true, ↓reduceIte, Nat.reduceMod, Nat.reduceDiv, Nat.reduceAdd, Nat.reduceSub, Nat.reduceMul, Nat.reduceLeDiff, Nat.reduceEqDiff, Nat.reduceBEq, Int.reduceToNat, Int.reduceAdd, Int32.reduceOfInt, Int64.reduceOfInt, Int32.reduceToNatClampNeg, Int32.reduceOfNat, Bool.or_self, Bool.or_false, Bool.false_or, Bool.true_or, Bool.or_true, true_and, and_true, false_and, and_false, List.set_cons_zero, List.set_cons_succ, List.take_succ_cons, List.take_zero, List.drop_succ_cons, List.drop_zero, List.reverse_cons, List.reverse_nil, List.nil_append, List.cons_append, List.length_cons, List.length_nil, Option.toList_some, Option.toList_none, not_true_eq_false, not_false_eq_true, forall_const, true_implies, false_implies, nrw, TTS, shC hc, and01, isCl, hc, hn, subS, ix_le _ hi12, hi2, not_true_eq_false, not_false_eq_true, and_true, true_and, and_false, false_and, and_self, or_true, true_or, or_false, false_or, ↓reduceIte, if_true, if_false, eq_self]
      exact h

def S68 (as : List Value) (m : xM) (Q : xQt) : Prop := match as with
  | [.ref c, .int b, .int p] => (isC c) ∧ (m.1 c 5 ≤ 12) ∧ Q (some (.int (fd (fun h => if m.1 (c + 9) h = b ∧ m.1 (c + 12) h = p ∧ ¬ m.1 (c + 13) h ≤ 0 then 1 else 0) (ix (m.1 c 5))))) (m)
  | _ => False
theorem s68 (c : Nat) (b : Int32) (p : Int32) (m : xM) (Q : xQt) : S68 [.ref c, .int b, .int p] m Q = ((isC c) ∧ (m.1 c 5 ≤ 12) ∧ Q (some (.int (fd (fun h => if m.1 (c + 9) h = b ∧ m.1 (c + 12) h = p ∧ ¬ m.1 (c + 13) h ≤ 0 then 1 else 0) (ix (m.1 c 5))))) (m)) := rfl
theorem t68 {G : xG} : ∀ as m Q, S68 as m Q → Tri G 68 as m Q := by
  intro as m Q h
  match as, h with
  | [.ref c, .int b, .int p], h =>
    obtain ⟨hc, hn, h⟩ := h
    refine tri_vc (ls := [.ref c, .int b, .int p, .null, .null]) (by decide +kernel) rfl (Nat.le_of_ble_eq_true rfl) ?_
    refine vc_seq (pc1 := 5) (ls1 := [.ref c, .int b, .int p, .int 0, .int 0]) (m1 := m) (vc_wp (T := TT []) TTn (fun p => p == 5) (rt0 := some .int) rfl c68 rfl ?_) ?_
    · simp only [i68, wp_iinc, wpE0, wpE1, wpE2, wpE3, wpE4, wpE5, wpJ, okS, lt4S, popR, litS, Int32.reduceLT, Int32.reduceLE, List.getElem?_cons_zero, List.getElem?_cons_succ, Bool.false_eq_true, ↓reduceIte, Nat.reduceMod, Nat.reduceDiv, Nat.reduceAdd, Nat.reduceSub, Nat.reduceMul, Nat.reduceLeDiff, Nat.reduceEqDiff, Nat.reduceBEq, Int.reduceToNat, Int.reduceAdd, Int32.reduceOfInt, Int64.reduceOfInt, Int32.reduceToNatClampNeg, Int32.reduceOfNat, Bool.or_self, Bool.or_false, Bool.false_or, Bool.true_or, Bool.or_true, true_and, and_true, false_and, and_false, List.set_cons_zero, List.set_cons_succ, List.take_succ_cons, List.take_zero, List.drop_succ_cons, List.drop_zero, List.reverse_cons, List.reverse_nil, List.nil_append, List.cons_append, List.length_cons, List.length_nil, Option.toList_some, Option.toList_none, not_true_eq_false, not_false_eq_true, forall_const, true_implies, false_implies, nrw, TTS, shC hc, and01, isCl, hc, hn, subS, true_and, and_true, true_or, or_false]
    refine vc_for (ix (m.1 c 5)) (fun i => [.ref c, .int b, .int p, .int (fd (fun h => if m.1 (c + 9) h = b ∧ m.1 (c + 12) h = p ∧ ¬ m.1 (c + 13) h ≤ 0 then 1 else 0) i), .int (nI i)]) (fun _ => m) (fun i hi => ?_) ?_
    · refine vc_wp (T := TT []) TTn (fun _ => false) (rt0 := some .int) rfl (ckl_drop 4 c68) rfl ?_
      have hi2 : ¬ (ix (m.1 c 5)) ≤ i := by omega
      have hi12 : i < 12 := by have := ix_max (k := 12) hn (by decide); omega
      have hi3 : vp_in (nI i) 12 := xin_nI hi12 (by omega)
      have hi4 : (nI i).toNatClampNeg = i := nI_clamp (by omega)
      simp only [List.drop, i68, wp_iinc, wpE0, wpE1, wpE2, wpE3, wpE4, wpE5, wpJ, okS, lt4S, popR, litS, Int32.reduceLT, Int32.reduceLE, List.getElem?_cons_zero, List.getElem?_cons_succ, Bool.false_eq_true, ↓reduceIte, Nat.reduceMod, Nat.reduceDiv, Nat.reduceAdd, Nat.reduceSub, Nat.reduceMul, Nat.reduceLeDiff, Nat.reduceEqDiff, Nat.reduceBEq, Int.reduceToNat, Int.reduceAdd, Int32.reduceOfInt, Int64.reduceOfInt, Int32.reduceToNatClampNeg, Int32.reduceOfNat, Bool.or_self, Bool.or_false, Bool.false_or, Bool.true_or, Bool.or_true, true_and, and_true, false_and, and_false, List.set_cons_zero, List.set_cons_succ, List.take_succ_cons, List.take_zero, List.drop_succ_cons, List.drop_zero, List.reverse_cons, List.reverse_nil, List.nil_append, List.cons_append, List.length_cons, List.length_nil, Option.toList_some, Option.toList_none, not_true_eq_false, not_false_eq_true, forall_const, true_implies, false_implies, nrw, TTS, shC hc, and01, isCl, hc, hn, subS, ix_le _ (show i < 2 ^ 31 by omega), hi2, hi3, hi4, not_true_eq_false, not_false_eq_true, and_true, true_and, and_false, false_and, and_self, or_true, true_or, or_false, false_or, ↓reduceIte, if_true, if_false, eq_self, nI_1, fd]
      repeat' (first | apply And.intro | intro _)
      all_goals (simp only [*, not_true_eq_false, not_false_eq_true, and_true, true_and, and_false, false_and, and_self, or_true, true_or, or_false, false_or, ↓reduceIte, if_true, if_false, eq_self, Int32.add_zero]; done)
    · refine vc_wp (T := TT []) TTn (fun _ => false) (rt0 := some .int) rfl (ckl_drop 4 c68) rfl ?_
      have hi2 : (ix (m.1 c 5)) ≤ (ix (m.1 c 5)) := Nat.le_refl _
      have hi12 : (ix (m.1 c 5)) < 2 ^ 31 := by have := ix_max (k := 12) hn (by decide); omega
      simp only [List.drop, i68, wp_iinc, wpE0, wpE1, wpE2, wpE3, wpE4, wpE5, wpJ, okS, lt4S, popR, litS, Int32.reduceLT, Int32.reduceLE, List.getElem?_cons_zero, List.getElem?_cons_succ, Bool.false_eq_true, ↓reduceIte, Nat.reduceMod, Nat.reduceDiv, Nat.reduceAdd, Nat.reduceSub, Nat.reduceMul, Nat.reduceLeDiff, Nat.reduceEqDiff, Nat.reduceBEq, Int.reduceToNat, Int.reduceAdd, Int32.reduceOfInt, Int64.reduceOfInt, Int32.reduceToNatClampNeg, Int32.reduceOfNat, Bool.or_self, Bool.or_false, Bool.false_or, Bool.true_or, Bool.or_true, true_and, and_true, false_and, and_false, List.set_cons_zero, List.set_cons_succ, List.take_succ_cons, List.take_zero, List.drop_succ_cons, List.drop_zero, List.reverse_cons, List.reverse_nil, List.nil_append, List.cons_append, List.length_cons, List.length_nil, Option.toList_some, Option.toList_none, not_true_eq_false, not_false_eq_true, forall_const, true_implies, false_implies, nrw, TTS, shC hc, and01, isCl, hc, hn, subS, ix_le _ hi12, hi2, not_true_eq_false, not_false_eq_true, and_true, true_and, and_false, false_and, and_self, or_true, true_or, or_false, false_or, ↓reduceIte, if_true, if_false, eq_self]
      exact h

def S71 (as : List Value) (m : xM) (Q : xQt) : Prop := match as with
  | [.ref c, .int b] => (isC c) ∧ (m.1 c 5 ≤ 12) ∧ Q (some (.int (fd (fun h => if m.1 (c + 9) h = b ∧ m.1 (c + 12) h = 2 ∧ ¬ m.1 (c + 13) h ≤ 0 then m.1 (c + 10) h else 0) (ix (m.1 c 5))))) (m)
  | _ => False
theorem s71 (c : Nat) (b : Int32) (m : xM) (Q : xQt) : S71 [.ref c, .int b] m Q = ((isC c) ∧ (m.1 c 5 ≤ 12) ∧ Q (some (.int (fd (fun h => if m.1 (c + 9) h = b ∧ m.1 (c + 12) h = 2 ∧ ¬ m.1 (c + 13) h ≤ 0 then m.1 (c + 10) h else 0) (ix (m.1 c 5))))) (m)) := rfl
theorem t71 {G : xG} : ∀ as m Q, S71 as m Q → Tri G 71 as m Q := by
  intro as m Q h
  match as, h with
  | [.ref c, .int b], h =>
    obtain ⟨hc, hn, h⟩ := h
    refine tri_vc (ls := [.ref c, .int b, .null, .null]) (by decide +kernel) rfl (Nat.le_of_ble_eq_true rfl) ?_
    refine vc_seq (pc1 := 4) (ls1 := [.ref c, .int b, .int 0, .int 0]) (m1 := m) (vc_wp (T := TT []) TTn (fun p => p == 4) (rt0 := some .int) rfl c71 rfl ?_) ?_
    · simp only [i71, wp_iinc, wpE0, wpE1, wpE2, wpE3, wpE4, wpE5, wpJ, okS, lt4S, popR, litS, Int32.reduceLT, Int32.reduceLE, List.getElem?_cons_zero, List.getElem?_cons_succ, Bool.false_eq_true, ↓reduceIte, Nat.reduceMod, Nat.reduceDiv, Nat.reduceAdd, Nat.reduceSub, Nat.reduceMul, Nat.reduceLeDiff, Nat.reduceEqDiff, Nat.reduceBEq, Int.reduceToNat, Int.reduceAdd, Int32.reduceOfInt, Int64.reduceOfInt, Int32.reduceToNatClampNeg, Int32.reduceOfNat, Bool.or_self, Bool.or_false, Bool.false_or, Bool.true_or, Bool.or_true, true_and, and_true, false_and, and_false, List.set_cons_zero, List.set_cons_succ, List.take_succ_cons, List.take_zero, List.drop_succ_cons, List.drop_zero, List.reverse_cons, List.reverse_nil, List.nil_append, List.cons_append, List.length_cons, List.length_nil, Option.toList_some, Option.toList_none, not_true_eq_false, not_false_eq_true, forall_const, true_implies, false_implies, nrw, TTS, shC hc, and01, isCl, hc, hn, subS, true_and, and_true, true_or, or_false]
    refine vc_for (ix (m.1 c 5)) (fun i => [.ref c, .int b, .int (fd (fun h => if m.1 (c + 9) h = b ∧ m.1 (c + 12) h = 2 ∧ ¬ m.1 (c + 13) h ≤ 0 then m.1 (c + 10) h else 0) i), .int (nI i)]) (fun _ => m) (fun i hi => ?_) ?_
    · refine vc_wp (T := TT []) TTn (fun _ => false) (rt0 := some .int) rfl (ckl_drop 4 c71) rfl ?_
      have hi2 : ¬ (ix (m.1 c 5)) ≤ i := by omega
      have hi12 : i < 12 := by have := ix_max (k := 12) hn (by decide); omega
      have hi3 : vp_in (nI i) 12 := xin_nI hi12 (by omega)
      have hi4 : (nI i).toNatClampNeg = i := nI_clamp (by omega)
      simp only [List.drop, i71, wp_iinc, wpE0, wpE1, wpE2, wpE3, wpE4, wpE5, wpJ, okS, lt4S, popR, litS, Int32.reduceLT, Int32.reduceLE, List.getElem?_cons_zero, List.getElem?_cons_succ, Bool.false_eq_true, ↓reduceIte, Nat.reduceMod, Nat.reduceDiv, Nat.reduceAdd, Nat.reduceSub, Nat.reduceMul, Nat.reduceLeDiff, Nat.reduceEqDiff, Nat.reduceBEq, Int.reduceToNat, Int.reduceAdd, Int32.reduceOfInt, Int64.reduceOfInt, Int32.reduceToNatClampNeg, Int32.reduceOfNat, Bool.or_self, Bool.or_false, Bool.false_or, Bool.true_or, Bool.or_true, true_and, and_true, false_and, and_false, List.set_cons_zero, List.set_cons_succ, List.take_succ_cons, List.take_zero, List.drop_succ_cons, List.drop_zero, List.reverse_cons, List.reverse_nil, List.nil_append, List.cons_append, List.length_cons, List.length_nil, Option.toList_some, Option.toList_none, not_true_eq_false, not_false_eq_true, forall_const, true_implies, false_implies, nrw, TTS, shC hc, and01, isCl, hc, hn, subS, ix_le _ (show i < 2 ^ 31 by omega), hi2, hi3, hi4, not_true_eq_false, not_false_eq_true, and_true, true_and, and_false, false_and, and_self, or_true, true_or, or_false, false_or, ↓reduceIte, if_true, if_false, eq_self, nI_1, fd]
      repeat' (first | apply And.intro | intro _)
      all_goals (simp only [*, not_true_eq_false, not_false_eq_true, and_true, true_and, and_false, false_and, and_self, or_true, true_or, or_false, false_or, ↓reduceIte, if_true, if_false, eq_self, Int32.add_zero]; done)
    · refine vc_wp (T := TT []) TTn (fun _ => false) (rt0 := some .int) rfl (ckl_drop 4 c71) rfl ?_
      have hi2 : (ix (m.1 c 5)) ≤ (ix (m.1 c 5)) := Nat.le_refl _
      have hi12 : (ix (m.1 c 5)) < 2 ^ 31 := by have := ix_max (k := 12) hn (by decide); omega
      simp only [List.drop, i71, wp_iinc, wpE0, wpE1, wpE2, wpE3, wpE4, wpE5, wpJ, okS, lt4S, popR, litS, Int32.reduceLT, Int32.reduceLE, List.getElem?_cons_zero, List.getElem?_cons_succ, Bool.false_eq_true, ↓reduceIte, Nat.reduceMod, Nat.reduceDiv, Nat.reduceAdd, Nat.reduceSub, Nat.reduceMul, Nat.reduceLeDiff, Nat.reduceEqDiff, Nat.reduceBEq, Int.reduceToNat, Int.reduceAdd, Int32.reduceOfInt, Int64.reduceOfInt, Int32.reduceToNatClampNeg, Int32.reduceOfNat, Bool.or_self, Bool.or_false, Bool.false_or, Bool.true_or, Bool.or_true, true_and, and_true, false_and, and_false, List.set_cons_zero, List.set_cons_succ, List.take_succ_cons, List.take_zero, List.drop_succ_cons, List.drop_zero, List.reverse_cons, List.reverse_nil, List.nil_append, List.cons_append, List.length_cons, List.length_nil, Option.toList_some, Option.toList_none, not_true_eq_false, not_false_eq_true, forall_const, true_implies, false_implies, nrw, TTS, shC hc, and01, isCl, hc, hn, subS, ix_le _ hi12, hi2, not_true_eq_false, not_false_eq_true, and_true, true_and, and_false, false_and, and_self, or_true, true_or, or_false, false_or, ↓reduceIte, if_true, if_false, eq_self]
      exact h
