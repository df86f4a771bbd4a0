def fV (w : Int64) (k t : Nat) : Int64 := w >>> ((8 * (nI k - nI (t + 1))).toInt64 &&& 63)
def fB (w : Int64) (k t : Nat) : Int32 := (fV w k t).toInt32.toInt8.toInt32.toInt8.toInt32
def fM (w : Int64) (k t : Nat) : Int32 := (fV w k t &&& 255).toInt32
theorem fB_e (w : Int64) (k t : Nat) : (w >>> ((8 * (nI k - nI (t + 1))).toInt64 &&& 63)).toInt32.toInt8.toInt32.toInt8.toInt32 = fB w k t := rfl
theorem fM_e (w : Int64) (k t : Nat) : (w >>> ((8 * (nI k - nI (t + 1))).toInt64 &&& 63) &&& 255).toInt32 = fM w k t := rfl
theorem sub_add1 (a b : Int32) : a - b + -1 = a - (b + 1) := by
  rw [Int32.sub_eq_add_neg a (b + 1), Int32.neg_add, Int32.sub_eq_add_neg (-b) 1, ← Int32.add_assoc, ← Int32.sub_eq_add_neg a b]
theorem f_step (k t : Nat) : nI k - nI (t + 1) + -1 = nI k - nI (t + 1 + 1) := by
  rw [← nI_1 (t + 1), sub_add1]
theorem f_pos {k t : Nat} (h : t < k) (hk : k ≤ 8) : ¬ nI k - nI (t + 1) < 0 := by
  rw [nI_sub (by omega)]
  exact nI_pos (by omega)
theorem f_end (k : Nat) : nI k - nI (k + 1) < 0 := by
  rw [← nI_1 k, ← sub_add1, Int32.sub_self]
  decide
theorem xa65 (m : xM) (a b c d : Nat → Int32) : xa (xa (xa (xa m 6 a) 5 b) 6 c) 5 d = xa (xa m 6 c) 5 d := xa4 m (by decide) a b c d
theorem xa93 (m : xM) (a b c d : Nat → Int32) : xa (xa (xa (xa m 93 a) 86 b) 93 c) 86 d = xa (xa m 93 c) 86 d := xa4 m (by decide) a b c d
theorem xaw (m : xM) {k j : Nat} (h : k ≠ j) (a b c : Nat → Int32) : xa (xa (xa m k a) j b) k c = xa (xa m k c) j b := by
  unfold xa
  refine Prod.ext (funext fun q => ?_) rfl
  by_cases h1 : q = j
  · subst h1; simp [Ne.symm h]
  · by_cases h2 : q = k
    · subst h2; simp [h]
    · simp [h1, h2]

theorem t23x {G : xG} {m : xM} {Q : xQt} {w : Int64} {k l : Nat} (hk : 1 ≤ k ∧ k ≤ 8) (hl : m.1 5 1 = nI l) (hlk : l + k ≤ 400) (h : Q none (xa (xa m 6 (va_cpy (fB w k) (m.1 6) 0 l k)) 5 (upd (m.1 5) 1 (nI (l + k))))) : Tri G 23 [.ref 5, .long w, .int (nI k)] m Q := by
  refine tri_vc (ls := [.ref 5, .long w, .null, .int (nI k), .null]) (by decide +kernel) rfl (Nat.le_of_ble_eq_true rfl) ?_
  refine vc_seq (pc1 := 5) (ls1 := [.ref 5, .long w, .null, .int (nI k), .int (nI k - nI 1)]) (m1 := m) (vc_wp (T := TT []) TTn (fun p => p == 5) (rt0 := none) rfl c23 rfl ?_) ?_
  · simp (disch := omega) only [i23, wp_iinc, wpE0, wpE1, wpE2, wpE3, wpE4, wpE5, wpJ, okS, lt4S, popR, litS, Int32.reduceLT, Int32.reduceLE, List.getElem?_cons_zero, List.getElem?_cons_succ, Bool.false_eq_true, ↓reduceIte, Nat.reduceMod, Nat.reduceDiv, Nat.reduceAdd, Nat.reduceSub, Nat.reduceMul, Nat.reduceLeDiff, Nat.reduceEqDiff, Nat.reduceBEq, Int.reduceToNat, Int.reduceAdd, Int32.reduceOfInt, Int64.reduceOfInt, Int32.reduceToNatClampNeg, Int32.reduceOfNat, Bool.or_self, Bool.or_false, Bool.false_or, Bool.true_or, Bool.or_true, true_and, and_true, false_and, and_false, List.set_cons_zero, List.set_cons_succ, List.take_succ_cons, List.take_zero, List.drop_succ_cons, List.drop_zero, List.reverse_cons, List.reverse_nil, List.nil_append, List.cons_append, List.length_cons, List.length_nil, Option.toList_some, Option.toList_none, not_true_eq_false, not_false_eq_true, forall_const, true_implies, false_implies, nrw, TTS, shO, xa_1, xa_2, upd_at, updU, Nat.reduceEqDiff, ↓reduceIte, linS, nI_add, clN, inN, Int32.reduceOfInt, show nI 1 = (1 : Int32) from rfl, subS, not_true_eq_false, not_false_eq_true, and_true, true_and, and_false, false_and, and_self, or_true, true_or, or_false, false_or, ↓reduceIte, if_true, if_false, eq_self]
  have e0 : (xa (xa m 6 (va_cpy (fB w k) (m.1 6) 0 l 0)) 5 (upd (m.1 5) 1 (nI (l + 0)))) = m := by
    rw [cpy_0, Nat.add_zero, ← hl, upd_id rfl]
    rw [show xa m 6 (m.1 6) = m from xa_id m 6]
    exact xa_id m 5
  rw [show VC G 23 Q (fun _ _ _ _ => False) 5 [.ref 5, .long w, .null, .int (nI k), .int (nI k - nI 1)] [] m = VC G 23 Q (fun _ _ _ _ => False) 5 [.ref 5, .long w, .null, .int (nI k), .int (nI k - nI 1)] [] (xa (xa m 6 (va_cpy (fB w k) (m.1 6) 0 l 0)) 5 (upd (m.1 5) 1 (nI (l + 0)))) by rw [e0]]
  refine vc_for k (fun i => [.ref 5, .long w, .null, .int (nI k), .int (nI k - nI (i + 1))]) (fun i => (xa (xa m 6 (va_cpy (fB w k) (m.1 6) 0 l i)) 5 (upd (m.1 5) 1 (nI (l + i))))) (fun i hi => ?_) ?_
  · refine vc_wp (T := TT []) TTn (fun _ => false) (rt0 := none) rfl (ckl_drop 4 c23) rfl ?_
    have hi2 := f_pos hi hk.2
    have es := cpy_s0 (fB w k) (m.1 6) l i
    simp (disch := omega) only [List.drop, i23, wp_iinc, wpE0, wpE1, wpE2, wpE3, wpE4, wpE5, wpJ, okS, lt4S, popR, litS, Int32.reduceLT, Int32.reduceLE, List.getElem?_cons_zero, List.getElem?_cons_succ, Bool.false_eq_true, ↓reduceIte, Nat.reduceMod, Nat.reduceDiv, Nat.reduceAdd, Nat.reduceSub, Nat.reduceMul, Nat.reduceLeDiff, Nat.reduceEqDiff, Nat.reduceBEq, Int.reduceToNat, Int.reduceAdd, Int32.reduceOfInt, Int64.reduceOfInt, Int32.reduceToNatClampNeg, Int32.reduceOfNat, Bool.or_self, Bool.or_false, Bool.false_or, Bool.true_or, Bool.or_true, true_and, and_true, false_and, and_false, List.set_cons_zero, List.set_cons_succ, List.take_succ_cons, List.take_zero, List.drop_succ_cons, List.drop_zero, List.reverse_cons, List.reverse_nil, List.nil_append, List.cons_append, List.length_cons, List.length_nil, Option.toList_some, Option.toList_none, not_true_eq_false, not_false_eq_true, forall_const, true_implies, false_implies, nrw, TTS, shO, xa_1, xa_2, upd_at, updU, Nat.reduceEqDiff, ↓reduceIte, linS, nI_add, clN, inN, Int32.reduceOfInt, fB_e, f_step, es, xa65, subS, hi2, nI_1, fd, not_true_eq_false, not_false_eq_true, and_true, true_and, and_false, false_and, and_self, or_true, true_or, or_false, false_or, ↓reduceIte, if_true, if_false, eq_self]
    rw [Nat.add_assoc]
  · have hi2 := f_end k
    refine vc_wp (T := TT []) TTn (fun _ => false) (rt0 := none) rfl (ckl_drop 4 c23) rfl ?_
    simp (disch := omega) only [List.drop, i23, wp_iinc, wpE0, wpE1, wpE2, wpE3, wpE4, wpE5, wpJ, okS, lt4S, popR, litS, Int32.reduceLT, Int32.reduceLE, List.getElem?_cons_zero, List.getElem?_cons_succ, Bool.false_eq_true, ↓reduceIte, Nat.reduceMod, Nat.reduceDiv, Nat.reduceAdd, Nat.reduceSub, Nat.reduceMul, Nat.reduceLeDiff, Nat.reduceEqDiff, Nat.reduceBEq, Int.reduceToNat, Int.reduceAdd, Int32.reduceOfInt, Int64.reduceOfInt, Int32.reduceToNatClampNeg, Int32.reduceOfNat, Bool.or_self, Bool.or_false, Bool.false_or, Bool.true_or, Bool.or_true, true_and, and_true, false_and, and_false, List.set_cons_zero, List.set_cons_succ, List.take_succ_cons, List.take_zero, List.drop_succ_cons, List.drop_zero, List.reverse_cons, List.reverse_nil, List.nil_append, List.cons_append, List.length_cons, List.length_nil, Option.toList_some, Option.toList_none, not_true_eq_false, not_false_eq_true, forall_const, true_implies, false_implies, nrw, TTS, shO, xa_1, xa_2, upd_at, updU, Nat.reduceEqDiff, ↓reduceIte, linS, nI_add, clN, inN, Int32.reduceOfInt, hi2, not_true_eq_false, not_false_eq_true, and_true, true_and, and_false, false_and, and_self, or_true, true_or, or_false, false_or, ↓reduceIte, if_true, if_false, eq_self]
    exact h

theorem xaw93 (m : xM) (a b c : Nat → Int32) : xa (xa (xa m 93 a) 86 b) 93 c = xa (xa m 93 c) 86 b := xaw m (by decide) a b c
theorem xa86 (m : xM) (f b c : Nat → Int32) : xa (xa (xa m 86 f) 93 b) 86 c = xa (xa m 93 b) 86 c := by
  unfold xa
  refine Prod.ext (funext fun q => ?_) rfl
  by_cases h1 : q = 86
  · simp [h1]
  · simp [h1]

theorem m153 {G : xG} {m : xM} {Q : xQt} {w : Int64} {k l : Nat} (hk : 1 ≤ k ∧ k ≤ 8) (hl : m.1 86 10 = nI l) (hlk : l + k ≤ 400) (h : Q (some (.long (nI (l + k)).toInt64)) (xa (xa (xa m 86 (upd (m.1 86) 0 0)) 93 (va_cpy (fM w k) (m.1 93) 0 l k)) 86 (upd (upd (m.1 86) 0 0) 10 (nI (l + k))))) : Tri G 153 [.ref 86, .long w, .int (nI k)] m Q := by
  refine tri_vc (ls := [.ref 86, .long w, .null, .int (nI k), .null]) (by decide +kernel) rfl (Nat.le_of_ble_eq_true rfl) ?_
  have hk1 : (1 : Int32) ≤ nI k := nI_le (a := 1) hk.1 (by omega)
  have hk2 : nI k ≤ (8 : Int32) := nI_le (b := 8) hk.2 (by omega)
  have hl4 : nI (l + k) ≤ (400 : Int32) := nI_le (b := 400) hlk (by omega)
  refine vc_seq (pc1 := 42) (ls1 := [.ref 86, .long w, .null, .int (nI k), .int (nI k - nI 1)]) (m1 := (xa m 86 (upd (m.1 86) 0 0))) (vc_wp (T := TT [(148, S148)]) (TTc t148 TTn) (fun p => p == 42) (rt0 := some .long) rfl c153 rfl ?_) ?_
  · simp (disch := omega) only [i153, wp_iinc, wpE0, wpE1, wpE2, wpE3, wpE4, wpE5, wpJ, okS, lt4S, popR, litS, Int32.reduceLT, Int32.reduceLE, List.getElem?_cons_zero, List.getElem?_cons_succ, Bool.false_eq_true, ↓reduceIte, Nat.reduceMod, Nat.reduceDiv, Nat.reduceAdd, Nat.reduceSub, Nat.reduceMul, Nat.reduceLeDiff, Nat.reduceEqDiff, Nat.reduceBEq, Int.reduceToNat, Int.reduceAdd, Int32.reduceOfInt, Int64.reduceOfInt, Int32.reduceToNatClampNeg, Int32.reduceOfNat, Bool.or_self, Bool.or_false, Bool.false_or, Bool.true_or, Bool.or_true, true_and, and_true, false_and, and_false, List.set_cons_zero, List.set_cons_succ, List.take_succ_cons, List.take_zero, List.drop_succ_cons, List.drop_zero, List.reverse_cons, List.reverse_nil, List.nil_append, List.cons_append, List.length_cons, List.length_nil, Option.toList_some, Option.toList_none, not_true_eq_false, not_false_eq_true, forall_const, true_implies, false_implies, nrw, TTS, s148, shM, shO, and01, bI_0, bI_and, isRl, cmpS, toLS, toL_le, toL_lt, i2lS, inM, Int64.reduceLE, Int64.reduceLT, xa_1, xa_2, xa_xa, upd_at, updU, linS, nI_add, nI_s2, clN, inN, inLS, Nat.reduceEqDiff, ↓reduceIte, not_true_eq_false, not_false_eq_true, and_true, true_and, and_false, false_and, and_self, or_true, true_or, or_false, false_or, ↓reduceIte, if_true, if_false, eq_self, hl, hk1, hk2, hl4, show nI 1 = (1 : Int32) from rfl, subS, not_true_eq_false, not_false_eq_true, and_true, true_and, and_false, false_and, and_self, or_true, true_or, or_false, false_or, ↓reduceIte, if_true, if_false, eq_self]
  have e0 : (xa (xa (xa m 86 (upd (m.1 86) 0 0)) 93 (va_cpy (fM w k) (m.1 93) 0 l 0)) 86 (upd (upd (m.1 86) 0 0) 10 (nI (l + 0)))) = (xa m 86 (upd (m.1 86) 0 0)) := by
    rw [cpy_0, Nat.add_zero, upd_id (f := upd (m.1 86) 0 0) (i := 10) (by rw [upd_ne (by decide)]; exact hl)]
    rw [show xa (xa m 86 (upd (m.1 86) 0 0)) 93 (m.1 93) = (xa m 86 (upd (m.1 86) 0 0)) from xa_id (xa m 86 (upd (m.1 86) 0 0)) 93]
    exact xa_xa _ _ _ _
  rw [← e0]
  refine vc_for k (fun i => [.ref 86, .long w, .null, .int (nI k), .int (nI k - nI (i + 1))]) (fun i => (xa (xa (xa m 86 (upd (m.1 86) 0 0)) 93 (va_cpy (fM w k) (m.1 93) 0 l i)) 86 (upd (upd (m.1 86) 0 0) 10 (nI (l + i))))) (fun i hi => ?_) ?_
  · refine vc_wp (T := TT [(148, S148)]) (TTc t148 TTn) (fun _ => false) (rt0 := some .long) rfl (ckl_drop 23 c153) rfl ?_
    have hi2 := f_pos hi hk.2
    have es := cpy_s0 (fM w k) (m.1 93) l i
    simp (disch := omega) only [List.drop, i153, wp_iinc, wpE0, wpE1, wpE2, wpE3, wpE4, wpE5, wpJ, okS, lt4S, popR, litS, Int32.reduceLT, Int32.reduceLE, List.getElem?_cons_zero, List.getElem?_cons_succ, Bool.false_eq_true, ↓reduceIte, Nat.reduceMod, Nat.reduceDiv, Nat.reduceAdd, Nat.reduceSub, Nat.reduceMul, Nat.reduceLeDiff, Nat.reduceEqDiff, Nat.reduceBEq, Int.reduceToNat, Int.reduceAdd, Int32.reduceOfInt, Int64.reduceOfInt, Int32.reduceToNatClampNeg, Int32.reduceOfNat, Bool.or_self, Bool.or_false, Bool.false_or, Bool.true_or, Bool.or_true, true_and, and_true, false_and, and_false, List.set_cons_zero, List.set_cons_succ, List.take_succ_cons, List.take_zero, List.drop_succ_cons, List.drop_zero, List.reverse_cons, List.reverse_nil, List.nil_append, List.cons_append, List.length_cons, List.length_nil, Option.toList_some, Option.toList_none, not_true_eq_false, not_false_eq_true, forall_const, true_implies, false_implies, nrw, TTS, s148, shM, shO, and01, bI_0, bI_and, isRl, cmpS, toLS, toL_le, toL_lt, i2lS, inM, Int64.reduceLE, Int64.reduceLT, xa_1, xa_2, xa_xa, upd_at, updU, linS, nI_add, nI_s2, clN, inN, inLS, Nat.reduceEqDiff, ↓reduceIte, not_true_eq_false, not_false_eq_true, and_true, true_and, and_false, false_and, and_self, or_true, true_or, or_false, false_or, ↓reduceIte, if_true, if_false, eq_self, fM_e, f_step, es, xaw93, xa86, subS, hi2, nI_1, fd, not_true_eq_false, not_false_eq_true, and_true, true_and, and_false, false_and, and_self, or_true, true_or, or_false, false_or, ↓reduceIte, if_true, if_false, eq_self]
    rw [Nat.add_assoc]
  · have hi2 := f_end k
    refine vc_wp (T := TT [(148, S148)]) (TTc t148 TTn) (fun _ => false) (rt0 := some .long) rfl (ckl_drop 23 c153) rfl ?_
    simp (disch := omega) only [List.drop, i153, wp_iinc, wpE0, wpE1, wpE2, wpE3, wpE4, wpE5, wpJ, okS, lt4S, popR, litS, Int32.reduceLT, Int32.reduceLE, List.getElem?_cons_zero, List.getElem?_cons_succ, Bool.false_eq_true, ↓reduceIte, Nat.reduceMod, Nat.reduceDiv, Nat.reduceAdd, Nat.reduceSub, Nat.reduceMul, Nat.reduceLeDiff, Nat.reduceEqDiff, Nat.reduceBEq, Int.reduceToNat, Int.reduceAdd, Int32.reduceOfInt, Int64.reduceOfInt, Int32.reduceToNatClampNeg, Int32.reduceOfNat, Bool.or_self, Bool.or_false, Bool.false_or, Bool.true_or, Bool.or_true, true_and, and_true, false_and, and_false, List.set_cons_zero, List.set_cons_succ, List.take_succ_cons, List.take_zero, List.drop_succ_cons, List.drop_zero, List.reverse_cons, List.reverse_nil, List.nil_append, List.cons_append, List.length_cons, List.length_nil, Option.toList_some, Option.toList_none, not_true_eq_false, not_false_eq_true, forall_const, true_implies, false_implies, nrw, TTS, s148, shM, shO, and01, bI_0, bI_and, isRl, cmpS, toLS, toL_le, toL_lt, i2lS, inM, Int64.reduceLE, Int64.reduceLT, xa_1, xa_2, xa_xa, upd_at, updU, linS, nI_add, nI_s2, clN, inN, inLS, Nat.reduceEqDiff, ↓reduceIte, not_true_eq_false, not_false_eq_true, and_true, true_and, and_false, false_and, and_self, or_true, true_or, or_false, false_or, ↓reduceIte, if_true, if_false, eq_self, hi2, not_true_eq_false, not_false_eq_true, and_true, true_and, and_false, false_and, and_self, or_true, true_or, or_false, false_or, ↓reduceIte, if_true, if_false, eq_self]
    exact h

def S22 (as : List Value) (m : xM) (Q : xQt) : Prop := match as with
  | [.ref o, .int a] => wp (fun _ _ _ _ => False) (fun _ => false) Q (some .boolean) (TT []) none i22 [.ref o, .int a] [] m
  | _ => False
theorem s22 (o : Nat) (a : Int32) (m : xM) (Q : xQt) : S22 [.ref o, .int a] m Q = wp (fun _ _ _ _ => False) (fun _ => false) Q (some .boolean) (TT []) none i22 [.ref o, .int a] [] m := rfl
theorem t22 {G : xG} : ∀ as m Q, S22 as m Q → Tri G 22 as m Q := by
  intro as m Q h
  match as, h with
  | [.ref o, .int a], h => exact tri_wp (T := TT []) (ls := [.ref o, .int a]) TTn c22 (by decide +kernel) (rt0 := some .boolean) rfl rfl (Nat.le_of_ble_eq_true rfl) rfl h

def S23 (as : List Value) (m : xM) (Q : xQt) : Prop := match as with
  | [.ref o, .long w, .int n] => o = 5 ∧ (n = nI (ix n) ∧ 1 ≤ ix n ∧ ix n ≤ 8) ∧ (m.1 5 1 = nI (ix (m.1 5 1)) ∧ ix (m.1 5 1) + ix n ≤ 400) ∧ Q none (xa (xa m 6 (va_cpy (fB w (ix n)) (m.1 6) 0 (ix (m.1 5 1)) (ix n))) 5 (upd (m.1 5) 1 (nI (ix (m.1 5 1) + ix n))))
  | _ => False
theorem s23 (o : Nat) (w : Int64) (n : Int32) (m : xM) (Q : xQt) : S23 [.ref o, .long w, .int n] m Q = (o = 5 ∧ (n = nI (ix n) ∧ 1 ≤ ix n ∧ ix n ≤ 8) ∧ (m.1 5 1 = nI (ix (m.1 5 1)) ∧ ix (m.1 5 1) + ix n ≤ 400) ∧ Q none (xa (xa m 6 (va_cpy (fB w (ix n)) (m.1 6) 0 (ix (m.1 5 1)) (ix n))) 5 (upd (m.1 5) 1 (nI (ix (m.1 5 1) + ix n))))) := rfl
theorem t23 {G : xG} : ∀ as m Q, S23 as m Q → Tri G 23 as m Q := by
  intro as m Q h
  match as, h with
  | [.ref o, .long w, .int n], h =>
    obtain ⟨ho, ⟨h1, h2⟩, ⟨h3, h4⟩, h⟩ := h
    subst ho
    rw [h1]
    exact t23x h2 h3 h4 h

theorem p21 {G : xG} {m : xM} (hR : REL m) (w : Int64) (n : Int32) {Q : xQt} (h : ∀ (rv : Int64) m1, MID G 153 [.ref 86, .long w, .int n] (.long rv) m1 → Q (some (.long rv)) m1) : Tri G 21 [.ref 0, .long w, .int n] m Q := by
  by_cases n1 : n < 1
  · have n1' : ¬ 1 ≤ n := Int32.not_le.mpr n1
    refine tri_wp (T := TT [(22, S22), (23, S23)]) (ls := [.ref 0, .long w, .null, .int n]) (TTc t22 (TTc t23 TTn)) c21 (by decide +kernel) (rt0 := some .long) rfl rfl (Nat.le_of_ble_eq_true rfl) rfl ?_
    simp only [i21, wp_iinc, wpE0, wpE1, wpE2, wpE3, wpE4, wpE5, wpJ, okS, lt4S, popR, litS, Int32.reduceLT, Int32.reduceLE, List.getElem?_cons_zero, List.getElem?_cons_succ, Bool.false_eq_true, ↓reduceIte, Nat.reduceMod, Nat.reduceDiv, Nat.reduceAdd, Nat.reduceSub, Nat.reduceMul, Nat.reduceLeDiff, Nat.reduceEqDiff, Nat.reduceBEq, Int.reduceToNat, Int.reduceAdd, Int32.reduceOfInt, Int64.reduceOfInt, Int32.reduceToNatClampNeg, Int32.reduceOfNat, Bool.or_self, Bool.or_false, Bool.false_or, Bool.true_or, Bool.or_true, true_and, and_true, false_and, and_false, List.set_cons_zero, List.set_cons_succ, List.take_succ_cons, List.take_zero, List.drop_succ_cons, List.drop_zero, List.reverse_cons, List.reverse_nil, List.nil_append, List.cons_append, List.length_cons, List.length_nil, Option.toList_some, Option.toList_none, not_true_eq_false, not_false_eq_true, forall_const, true_implies, false_implies, nrw, TTS, s22, s23, i22, shO, sh7L, and01, bI_0, bI_and, isCl, isRl, cmpS, toLS, toL_le, toL_lt, i2lS, inM, Int64.reduceLE, Int64.reduceLT, xa_1, xa_2, xa_xa, upd_at, updU, Nat.reduceEqDiff, ↓reduceIte, not_true_eq_false, not_false_eq_true, and_true, true_and, and_false, false_and, and_self, or_true, true_or, or_false, false_or, ↓reduceIte, if_true, if_false, eq_self, n1, n1']
    refine h _ _ (fun Q' hq => ?_)
    refine tri_wp (T := TT [(148, S148)]) (ls := [.ref 86, .long w, .null, .int n, .null]) (TTc t148 TTn) c153 (by decide +kernel) (rt0 := some .long) rfl rfl (Nat.le_of_ble_eq_true rfl) rfl ?_
    simp only [i153, wp_iinc, wpE0, wpE1, wpE2, wpE3, wpE4, wpE5, wpJ, okS, lt4S, popR, litS, Int32.reduceLT, Int32.reduceLE, List.getElem?_cons_zero, List.getElem?_cons_succ, Bool.false_eq_true, ↓reduceIte, Nat.reduceMod, Nat.reduceDiv, Nat.reduceAdd, Nat.reduceSub, Nat.reduceMul, Nat.reduceLeDiff, Nat.reduceEqDiff, Nat.reduceBEq, Int.reduceToNat, Int.reduceAdd, Int32.reduceOfInt, Int64.reduceOfInt, Int32.reduceToNatClampNeg, Int32.reduceOfNat, Bool.or_self, Bool.or_false, Bool.false_or, Bool.true_or, Bool.or_true, true_and, and_true, false_and, and_false, List.set_cons_zero, List.set_cons_succ, List.take_succ_cons, List.take_zero, List.drop_succ_cons, List.drop_zero, List.reverse_cons, List.reverse_nil, List.nil_append, List.cons_append, List.length_cons, List.length_nil, Option.toList_some, Option.toList_none, not_true_eq_false, not_false_eq_true, forall_const, true_implies, false_implies, nrw, TTS, s148, shM, shO, and01, bI_0, bI_and, isRl, cmpS, toLS, toL_le, toL_lt, i2lS, inM, Int64.reduceLE, Int64.reduceLT, xa_1, xa_2, xa_xa, upd_at, updU, linS, nI_add, nI_s2, clN, inN, inLS, Nat.reduceEqDiff, ↓reduceIte, not_true_eq_false, not_false_eq_true, and_true, true_and, and_false, false_and, and_self, or_true, true_or, or_false, false_or, ↓reduceIte, if_true, if_false, eq_self, n1, n1']
    exact hq _ (REL_thr hR 0)
  have n1' : 1 ≤ n := Int32.not_lt.mp n1
  by_cases n2 : ¬ (n ≤ 8)
  · refine tri_wp (T := TT [(22, S22), (23, S23)]) (ls := [.ref 0, .long w, .null, .int n]) (TTc t22 (TTc t23 TTn)) c21 (by decide +kernel) (rt0 := some .long) rfl rfl (Nat.le_of_ble_eq_true rfl) rfl ?_
    simp only [i21, wp_iinc, wpE0, wpE1, wpE2, wpE3, wpE4, wpE5, wpJ, okS, lt4S, popR, litS, Int32.reduceLT, Int32.reduceLE, List.getElem?_cons_zero, List.getElem?_cons_succ, Bool.false_eq_true, ↓reduceIte, Nat.reduceMod, Nat.reduceDiv, Nat.reduceAdd, Nat.reduceSub, Nat.reduceMul, Nat.reduceLeDiff, Nat.reduceEqDiff, Nat.reduceBEq, Int.reduceToNat, Int.reduceAdd, Int32.reduceOfInt, Int64.reduceOfInt, Int32.reduceToNatClampNeg, Int32.reduceOfNat, Bool.or_self, Bool.or_false, Bool.false_or, Bool.true_or, Bool.or_true, true_and, and_true, false_and, and_false, List.set_cons_zero, List.set_cons_succ, List.take_succ_cons, List.take_zero, List.drop_succ_cons, List.drop_zero, List.reverse_cons, List.reverse_nil, List.nil_append, List.cons_append, List.length_cons, List.length_nil, Option.toList_some, Option.toList_none, not_true_eq_false, not_false_eq_true, forall_const, true_implies, false_implies, nrw, TTS, s22, s23, i22, shO, sh7L, and01, bI_0, bI_and, isCl, isRl, cmpS, toLS, toL_le, toL_lt, i2lS, inM, Int64.reduceLE, Int64.reduceLT, xa_1, xa_2, xa_xa, upd_at, updU, Nat.reduceEqDiff, ↓reduceIte, not_true_eq_false, not_false_eq_true, and_true, true_and, and_false, false_and, and_self, or_true, true_or, or_false, false_or, ↓reduceIte, if_true, if_false, eq_self, n1, n1', n2]
    refine h _ _ (fun Q' hq => ?_)
    refine tri_wp (T := TT [(148, S148)]) (ls := [.ref 86, .long w, .null, .int n, .null]) (TTc t148 TTn) c153 (by decide +kernel) (rt0 := some .long) rfl rfl (Nat.le_of_ble_eq_true rfl) rfl ?_
    simp only [i153, wp_iinc, wpE0, wpE1, wpE2, wpE3, wpE4, wpE5, wpJ, okS, lt4S, popR, litS, Int32.reduceLT, Int32.reduceLE, List.getElem?_cons_zero, List.getElem?_cons_succ, Bool.false_eq_true, ↓reduceIte, Nat.reduceMod, Nat.reduceDiv, Nat.reduceAdd, Nat.reduceSub, Nat.reduceMul, Nat.reduceLeDiff, Nat.reduceEqDiff, Nat.reduceBEq, Int.reduceToNat, Int.reduceAdd, Int32.reduceOfInt, Int64.reduceOfInt, Int32.reduceToNatClampNeg, Int32.reduceOfNat, Bool.or_self, Bool.or_false, Bool.false_or, Bool.true_or, Bool.or_true, true_and, and_true, false_and, and_false, List.set_cons_zero, List.set_cons_succ, List.take_succ_cons, List.take_zero, List.drop_succ_cons, List.drop_zero, List.reverse_cons, List.reverse_nil, List.nil_append, List.cons_append, List.length_cons, List.length_nil, Option.toList_some, Option.toList_none, not_true_eq_false, not_false_eq_true, forall_const, true_implies, false_implies, nrw, TTS, s148, shM, shO, and01, bI_0, bI_and, isRl, cmpS, toLS, toL_le, toL_lt, i2lS, inM, Int64.reduceLE, Int64.reduceLT, xa_1, xa_2, xa_xa, upd_at, updU, linS, nI_add, nI_s2, clN, inN, inLS, Nat.reduceEqDiff, ↓reduceIte, not_true_eq_false, not_false_eq_true, and_true, true_and, and_false, false_and, and_self, or_true, true_or, or_false, false_or, ↓reduceIte, if_true, if_false, eq_self, n1, n1', n2]
    exact hq _ (REL_thr hR 0)
  have n2 : n ≤ 8 := Classical.not_not.mp n2
  obtain ⟨hl400, hl⟩ := ix_b (n := 400) (by decide) hR.tape.2.1
  have hn : bt n 1 8 := ⟨by have := Int32.le_iff_toInt_le.mp n1'; exact this, by have := Int32.le_iff_toInt_le.mp n2; exact this⟩
  obtain ⟨hn8, hnn⟩ := ix_b (n := 8) (by decide) hn
  have hn1 : 1 ≤ ix n := by
    have := hn.1
    show 1 ≤ n.toInt.toNat
    omega
  have hl2 : m.1 86 10 = nI (ix (m.1 5 1)) := by rw [← hR.tape.1]; exact hl
  by_cases z : ix (m.1 5 1) + ix n ≤ 400
  · have z1 : ¬ 400 < m.1 5 1 + n := by
      rw [hl, hnn, nI_add]
      exact nI_nlt (a := 400) z (by omega)
    have hx : ix (m.1 5 1) + ix n < 2 ^ 31 := by omega
    have htp : Rtape (nI (ix (m.1 5 1) + ix n)) (va_cpy (fB w (ix n)) (m.1 6) 0 (ix (m.1 5 1)) (ix n)) (nI (ix (m.1 5 1) + ix n)) (va_cpy (fM w (ix n)) (m.1 93) 0 (ix (m.1 5 1)) (ix n)) := by
      refine ⟨rfl, b_nI (u := 400) z (by decide), fun i hi => ?_⟩
      rw [ix_nI hx] at hi
      by_cases y : i < ix (m.1 5 1)
      · rw [cpy_out (by omega), cpy_out (by omega)]
        exact hR.tape.2.2 i y
      · rw [cpy_in (by omega) (by omega), cpy_in (by omega) (by omega)]
        exact ⟨b_i8 _, and255 _⟩
    refine tri_wp (T := TT [(22, S22), (23, S23)]) (ls := [.ref 0, .long w, .null, .int n]) (TTc t22 (TTc t23 TTn)) c21 (by decide +kernel) (rt0 := some .long) rfl rfl (Nat.le_of_ble_eq_true rfl) rfl ?_
    simp only [i21, wp_iinc, wpE0, wpE1, wpE2, wpE3, wpE4, wpE5, wpJ, okS, lt4S, popR, litS, Int32.reduceLT, Int32.reduceLE, List.getElem?_cons_zero, List.getElem?_cons_succ, Bool.false_eq_true, ↓reduceIte, Nat.reduceMod, Nat.reduceDiv, Nat.reduceAdd, Nat.reduceSub, Nat.reduceMul, Nat.reduceLeDiff, Nat.reduceEqDiff, Nat.reduceBEq, Int.reduceToNat, Int.reduceAdd, Int32.reduceOfInt, Int64.reduceOfInt, Int32.reduceToNatClampNeg, Int32.reduceOfNat, Bool.or_self, Bool.or_false, Bool.false_or, Bool.true_or, Bool.or_true, true_and, and_true, false_and, and_false, List.set_cons_zero, List.set_cons_succ, List.take_succ_cons, List.take_zero, List.drop_succ_cons, List.drop_zero, List.reverse_cons, List.reverse_nil, List.nil_append, List.cons_append, List.length_cons, List.length_nil, Option.toList_some, Option.toList_none, not_true_eq_false, not_false_eq_true, forall_const, true_implies, false_implies, nrw, TTS, s22, s23, i22, shO, sh7L, and01, bI_0, bI_and, isCl, isRl, cmpS, toLS, toL_le, toL_lt, i2lS, inM, Int64.reduceLE, Int64.reduceLT, xa_1, xa_2, xa_xa, upd_at, updU, Nat.reduceEqDiff, ↓reduceIte, not_true_eq_false, not_false_eq_true, and_true, true_and, and_false, false_and, and_self, or_true, true_or, or_false, false_or, ↓reduceIte, if_true, if_false, eq_self, hl.symm, hnn.symm, hn1, hn8, z, z1, n1, n1', n2]
    refine h _ _ (fun Q' hq => ?_)
    have el : ([.ref 86, .long w, .int n] : List Value) = [.ref 86, .long w, .int (nI (ix n))] := by rw [← hnn]
    rw [el]
    refine m153 (l := ix (m.1 5 1)) ⟨hn1, hn8⟩ hl2 z ?_
    refine hq _ ?_
    exact REL.mk (by exact hR.rows) (by exact htp) (by exact hR.club) (by exact hR.there) (by exact hR.im0) (by exact hR.im1) (by exact hR.kept0) (by exact hR.kept1) (by exact hR.fault) (by exact hR.status) (by exact hR.trace) (by exact hR.still) (by exact hR.kth)
  have z1 : 400 < m.1 5 1 + n := by
    rw [hl, hnn, nI_add]
    exact nI_lt (a := 400) (by omega) (by omega)
  have z2 : ¬ m.1 86 10 + n ≤ 400 := by
    rw [← hR.tape.1]
    exact Int32.not_le.mpr z1
  refine tri_wp (T := TT [(22, S22), (23, S23)]) (ls := [.ref 0, .long w, .null, .int n]) (TTc t22 (TTc t23 TTn)) c21 (by decide +kernel) (rt0 := some .long) rfl rfl (Nat.le_of_ble_eq_true rfl) rfl ?_
  simp only [i21, wp_iinc, wpE0, wpE1, wpE2, wpE3, wpE4, wpE5, wpJ, okS, lt4S, popR, litS, Int32.reduceLT, Int32.reduceLE, List.getElem?_cons_zero, List.getElem?_cons_succ, Bool.false_eq_true, ↓reduceIte, Nat.reduceMod, Nat.reduceDiv, Nat.reduceAdd, Nat.reduceSub, Nat.reduceMul, Nat.reduceLeDiff, Nat.reduceEqDiff, Nat.reduceBEq, Int.reduceToNat, Int.reduceAdd, Int32.reduceOfInt, Int64.reduceOfInt, Int32.reduceToNatClampNeg, Int32.reduceOfNat, Bool.or_self, Bool.or_false, Bool.false_or, Bool.true_or, Bool.or_true, true_and, and_true, false_and, and_false, List.set_cons_zero, List.set_cons_succ, List.take_succ_cons, List.take_zero, List.drop_succ_cons, List.drop_zero, List.reverse_cons, List.reverse_nil, List.nil_append, List.cons_append, List.length_cons, List.length_nil, Option.toList_some, Option.toList_none, not_true_eq_false, not_false_eq_true, forall_const, true_implies, false_implies, nrw, TTS, s22, s23, i22, shO, sh7L, and01, bI_0, bI_and, isCl, isRl, cmpS, toLS, toL_le, toL_lt, i2lS, inM, Int64.reduceLE, Int64.reduceLT, xa_1, xa_2, xa_xa, upd_at, updU, Nat.reduceEqDiff, ↓reduceIte, not_true_eq_false, not_false_eq_true, and_true, true_and, and_false, false_and, and_self, or_true, true_or, or_false, false_or, ↓reduceIte, if_true, if_false, eq_self, z1, n1, n1', n2]
  refine h _ _ (fun Q' hq => ?_)
  refine tri_wp (T := TT [(148, S148)]) (ls := [.ref 86, .long w, .null, .int n, .null]) (TTc t148 TTn) c153 (by decide +kernel) (rt0 := some .long) rfl rfl (Nat.le_of_ble_eq_true rfl) rfl ?_
  simp only [i153, wp_iinc, wpE0, wpE1, wpE2, wpE3, wpE4, wpE5, wpJ, okS, lt4S, popR, litS, Int32.reduceLT, Int32.reduceLE, List.getElem?_cons_zero, List.getElem?_cons_succ, Bool.false_eq_true, ↓reduceIte, Nat.reduceMod, Nat.reduceDiv, Nat.reduceAdd, Nat.reduceSub, Nat.reduceMul, Nat.reduceLeDiff, Nat.reduceEqDiff, Nat.reduceBEq, Int.reduceToNat, Int.reduceAdd, Int32.reduceOfInt, Int64.reduceOfInt, Int32.reduceToNatClampNeg, Int32.reduceOfNat, Bool.or_self, Bool.or_false, Bool.false_or, Bool.true_or, Bool.or_true, true_and, and_true, false_and, and_false, List.set_cons_zero, List.set_cons_succ, List.take_succ_cons, List.take_zero, List.drop_succ_cons, List.drop_zero, List.reverse_cons, List.reverse_nil, List.nil_append, List.cons_append, List.length_cons, List.length_nil, Option.toList_some, Option.toList_none, not_true_eq_false, not_false_eq_true, forall_const, true_implies, false_implies, nrw, TTS, s148, shM, shO, and01, bI_0, bI_and, isRl, cmpS, toLS, toL_le, toL_lt, i2lS, inM, Int64.reduceLE, Int64.reduceLT, xa_1, xa_2, xa_xa, upd_at, updU, linS, nI_add, nI_s2, clN, inN, inLS, Nat.reduceEqDiff, ↓reduceIte, not_true_eq_false, not_false_eq_true, and_true, true_and, and_false, false_and, and_self, or_true, true_or, or_false, false_or, ↓reduceIte, if_true, if_false, eq_self, z2, n1, n1', n2]
  exact hq _ (REL_thr hR 0)

