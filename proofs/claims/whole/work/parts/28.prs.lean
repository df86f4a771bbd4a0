theorem inM : vp_in (0 : Int32) 65 = True ∧ vp_in (1 : Int32) 65 = True ∧ vp_in (2 : Int32) 65 = True ∧ vp_in (3 : Int32) 65 = True ∧ vp_in (4 : Int32) 65 = True ∧ vp_in (48 : Int32) 49 = True ∧ vp_in (0 : Int32) 2 = True ∧ vp_in (1 : Int32) 2 = True := by refine ⟨?_, ?_, ?_, ?_, ?_, ?_, ?_, ?_⟩ <;> exact eq_true (vp_in_nI (by decide) (by decide))
def S11 (as : List Value) (m : xM) (Q : xQt) : Prop := match as with
  | [.ref o, .int a] => wp (fun _ _ _ _ => False) (fun _ => false) Q (some .long) (TT []) none i11 [.ref o, .int a] [] m
  | _ => False
theorem s11 (o : Nat) (a : Int32) (m : xM) (Q : xQt) : S11 [.ref o, .int a] m Q = wp (fun _ _ _ _ => False) (fun _ => false) Q (some .long) (TT []) none i11 [.ref o, .int a] [] m := rfl
theorem t11 {G : xG} : ∀ as m Q, S11 as m Q → Tri G 11 as m Q := by
  intro as m Q h
  match as, h with
  | [.ref o, .int a], h => exact tri_wp (T := TT []) (ls := [.ref o, .int a]) TTn c11 (by decide +kernel) (rt0 := some .long) rfl rfl (Nat.le_of_ble_eq_true rfl) rfl h

def S13 (as : List Value) (m : xM) (Q : xQt) : Prop := match as with
  | [.ref o, .long a] => wp (fun _ _ _ _ => False) (fun _ => false) Q (some .long) (TT []) none i13 [.ref o, .long a, .null] [] m
  | _ => False
theorem s13 (o : Nat) (a : Int64) (m : xM) (Q : xQt) : S13 [.ref o, .long a] m Q = wp (fun _ _ _ _ => False) (fun _ => false) Q (some .long) (TT []) none i13 [.ref o, .long a, .null] [] m := rfl
theorem t13 {G : xG} : ∀ as m Q, S13 as m Q → Tri G 13 as m Q := by
  intro as m Q h
  match as, h with
  | [.ref o, .long a], h => exact tri_wp (T := TT []) (ls := [.ref o, .long a, .null]) TTn c13 (by decide +kernel) (rt0 := some .long) rfl rfl (Nat.le_of_ble_eq_true rfl) rfl h

def S10 (as : List Value) (m : xM) (Q : xQt) : Prop := match as with
  | [.int a] => Q (some (.int (bI (¬ a < 0 ∧ ¬ 8 ≤ a)))) (m)
  | _ => False
theorem s10 (a : Int32) (m : xM) (Q : xQt) : S10 [.int a] m Q = (Q (some (.int (bI (¬ a < 0 ∧ ¬ 8 ≤ a)))) (m)) := rfl
theorem t10 {G : xG} : ∀ as m Q, S10 as m Q → Tri G 10 as m Q := by
  intro as m Q h
  match as, h with
  | [.int a], h =>
    rw [s10] at h
    refine tri_wp (T := TT []) (ls := [.int a]) TTn c10 (by decide +kernel) (rt0 := some .boolean) rfl rfl (Nat.le_of_ble_eq_true rfl) rfl ?_
    simp only [i10, wp_iinc, wpE0, wpE1, wpE2, wpE3, wpE4, wpE5, wpJ, okS, lt4S, popR, litS, Int32.reduceLT, Int32.reduceLE, List.getElem?_cons_zero, List.getElem?_cons_succ, Bool.false_eq_true, ↓reduceIte, Nat.reduceMod, Nat.reduceDiv, Nat.reduceAdd, Nat.reduceSub, Nat.reduceMul, Nat.reduceLeDiff, Nat.reduceEqDiff, Nat.reduceBEq, Int.reduceToNat, Int.reduceAdd, Int32.reduceOfInt, Int64.reduceOfInt, Int32.reduceToNatClampNeg, Int32.reduceOfNat, Bool.or_self, Bool.or_false, Bool.false_or, Bool.true_or, Bool.or_true, true_and, and_true, false_and, and_false, List.set_cons_zero, List.set_cons_succ, List.take_succ_cons, List.take_zero, List.drop_succ_cons, List.drop_zero, List.reverse_cons, List.reverse_nil, List.nil_append, List.cons_append, List.length_cons, List.length_nil, Option.toList_some, Option.toList_none, not_true_eq_false, not_false_eq_true, forall_const, true_implies, false_implies, nrw, TTS, and01]
    repeat' (first | apply And.intro | intro _)
    all_goals first | trivial | exact h | (simp only [*, bI, ix, not_true_eq_false, not_false_eq_true, and_true, true_and, and_false, false_and, and_self, or_true, true_or, or_false, false_or, ↓reduceIte, if_true, if_false, eq_self] at h; exact h) | (simp only [*, not_true_eq_false, not_false_eq_true, and_true, true_and, and_false, false_and, and_self, or_true, true_or, or_false, false_or, ↓reduceIte, if_true, if_false, eq_self]; done)

def S148 (as : List Value) (m : xM) (Q : xQt) : Prop := match as with
  | [.long a, .long a2, .long a3] => Q (some (.int (bI (a2 ≤ a ∧ a ≤ a3)))) (m)
  | _ => False
theorem s148 (a : Int64) (a2 : Int64) (a3 : Int64) (m : xM) (Q : xQt) : S148 [.long a, .long a2, .long a3] m Q = (Q (some (.int (bI (a2 ≤ a ∧ a ≤ a3)))) (m)) := rfl
theorem t148 {G : xG} : ∀ as m Q, S148 as m Q → Tri G 148 as m Q := by
  intro as m Q h
  match as, h with
  | [.long a, .long a2, .long a3], h =>
    rw [s148] at h
    refine tri_wp (T := TT []) (ls := [.long a, .null, .long a2, .null, .long a3, .null]) TTn c148 (by decide +kernel) (rt0 := some .boolean) rfl rfl (Nat.le_of_ble_eq_true rfl) rfl ?_
    simp only [i148, wp_iinc, wpE0, wpE1, wpE2, wpE3, wpE4, wpE5, wpJ, okS, lt4S, popR, litS, Int32.reduceLT, Int32.reduceLE, List.getElem?_cons_zero, List.getElem?_cons_succ, Bool.false_eq_true, ↓reduceIte, Nat.reduceMod, Nat.reduceDiv, Nat.reduceAdd, Nat.reduceSub, Nat.reduceMul, Nat.reduceLeDiff, Nat.reduceEqDiff, Nat.reduceBEq, Int.reduceToNat, Int.reduceAdd, Int32.reduceOfInt, Int64.reduceOfInt, Int32.reduceToNatClampNeg, Int32.reduceOfNat, Bool.or_self, Bool.or_false, Bool.false_or, Bool.true_or, Bool.or_true, true_and, and_true, false_and, and_false, List.set_cons_zero, List.set_cons_succ, List.take_succ_cons, List.take_zero, List.drop_succ_cons, List.drop_zero, List.reverse_cons, List.reverse_nil, List.nil_append, List.cons_append, List.length_cons, List.length_nil, Option.toList_some, Option.toList_none, not_true_eq_false, not_false_eq_true, forall_const, true_implies, false_implies, nrw, TTS, and01, cmpS, gt_iff_lt, Int64.not_lt, Int64.not_le]
    refine ⟨fun q => ?_, fun q => ?_⟩
    · rw [bI_f (fun z => Int64.not_le.mpr q z.1)] at h; exact h
    · refine ⟨fun q2 => ?_, fun q2 => ?_⟩
      · rw [bI_f (fun z => Int64.not_le.mpr q2 z.2)] at h; exact h
      · rw [bI_t ⟨q, q2⟩] at h; exact h

def S147 (as : List Value) (m : xM) (Q : xQt) : Prop := match as with
  | [.int a] => Q (some (.int (bI (0 ≤ a ∧ a ≤ 7)))) (m)
  | _ => False
theorem s147 (a : Int32) (m : xM) (Q : xQt) : S147 [.int a] m Q = (Q (some (.int (bI (0 ≤ a ∧ a ≤ 7)))) (m)) := rfl
theorem t147 {G : xG} : ∀ as m Q, S147 as m Q → Tri G 147 as m Q := by
  intro as m Q h
  match as, h with
  | [.int a], h =>
    rw [s147] at h
    refine tri_wp (T := TT [(148, S148)]) (ls := [.int a]) (TTc t148 TTn) c147 (by decide +kernel) (rt0 := some .boolean) rfl rfl (Nat.le_of_ble_eq_true rfl) rfl ?_
    simp only [i147, wp_iinc, wpE0, wpE1, wpE2, wpE3, wpE4, wpE5, wpJ, okS, lt4S, popR, litS, Int32.reduceLT, Int32.reduceLE, List.getElem?_cons_zero, List.getElem?_cons_succ, Bool.false_eq_true, ↓reduceIte, Nat.reduceMod, Nat.reduceDiv, Nat.reduceAdd, Nat.reduceSub, Nat.reduceMul, Nat.reduceLeDiff, Nat.reduceEqDiff, Nat.reduceBEq, Int.reduceToNat, Int.reduceAdd, Int32.reduceOfInt, Int64.reduceOfInt, Int32.reduceToNatClampNeg, Int32.reduceOfNat, Bool.or_self, Bool.or_false, Bool.false_or, Bool.true_or, Bool.or_true, true_and, and_true, false_and, and_false, List.set_cons_zero, List.set_cons_succ, List.take_succ_cons, List.take_zero, List.drop_succ_cons, List.drop_zero, List.reverse_cons, List.reverse_nil, List.nil_append, List.cons_append, List.length_cons, List.length_nil, Option.toList_some, Option.toList_none, not_true_eq_false, not_false_eq_true, forall_const, true_implies, false_implies, nrw, TTS, s148, bI_and, toLS, i2lS]
    exact h

def S177 (as : List Value) (m : xM) (Q : xQt) : Prop := match as with
  | [.ref o, .int a] => (o = 86) ∧ Q (some (.int (bI (0 ≤ a ∧ a ≤ m.1 90 3 - 1)))) (m)
  | _ => False
theorem s177 (o : Nat) (a : Int32) (m : xM) (Q : xQt) : S177 [.ref o, .int a] m Q = ((o = 86) ∧ Q (some (.int (bI (0 ≤ a ∧ a ≤ m.1 90 3 - 1)))) (m)) := rfl
theorem t177 {G : xG} : ∀ as m Q, S177 as m Q → Tri G 177 as m Q := by
  intro as m Q h
  match as, h with
  | [.ref o, .int a], h =>
    obtain ⟨rfl, h⟩ := h
    refine tri_wp (T := TT [(148, S148)]) (ls := [.ref 86, .int a]) (TTc t148 TTn) c177 (by decide +kernel) (rt0 := some .boolean) rfl rfl (Nat.le_of_ble_eq_true rfl) rfl ?_
    simp only [i177, wp_iinc, wpE0, wpE1, wpE2, wpE3, wpE4, wpE5, wpJ, okS, lt4S, popR, litS, Int32.reduceLT, Int32.reduceLE, List.getElem?_cons_zero, List.getElem?_cons_succ, Bool.false_eq_true, ↓reduceIte, Nat.reduceMod, Nat.reduceDiv, Nat.reduceAdd, Nat.reduceSub, Nat.reduceMul, Nat.reduceLeDiff, Nat.reduceEqDiff, Nat.reduceBEq, Int.reduceToNat, Int.reduceAdd, Int32.reduceOfInt, Int64.reduceOfInt, Int32.reduceToNatClampNeg, Int32.reduceOfNat, Bool.or_self, Bool.or_false, Bool.false_or, Bool.true_or, Bool.or_true, true_and, and_true, false_and, and_false, List.set_cons_zero, List.set_cons_succ, List.take_succ_cons, List.take_zero, List.drop_succ_cons, List.drop_zero, List.reverse_cons, List.reverse_nil, List.nil_append, List.cons_append, List.length_cons, List.length_nil, Option.toList_some, Option.toList_none, not_true_eq_false, not_false_eq_true, forall_const, true_implies, false_implies, nrw, TTS, s148, shM, and01, bI_0, cmpS, bI_and, toL_le, toLS, i2lS, inM]
    exact h

def S172 (as : List Value) (m : xM) (Q : xQt) : Prop := match as with
  | [.ref o, .int a] => (o = 86) ∧ Q (some (.int (bI (0 ≤ a ∧ a ≤ m.1 90 4 - 1)))) (m)
  | _ => False
theorem s172 (o : Nat) (a : Int32) (m : xM) (Q : xQt) : S172 [.ref o, .int a] m Q = ((o = 86) ∧ Q (some (.int (bI (0 ≤ a ∧ a ≤ m.1 90 4 - 1)))) (m)) := rfl
theorem t172 {G : xG} : ∀ as m Q, S172 as m Q → Tri G 172 as m Q := by
  intro as m Q h
  match as, h with
  | [.ref o, .int a], h =>
    obtain ⟨rfl, h⟩ := h
    refine tri_wp (T := TT [(148, S148)]) (ls := [.ref 86, .int a]) (TTc t148 TTn) c172 (by decide +kernel) (rt0 := some .boolean) rfl rfl (Nat.le_of_ble_eq_true rfl) rfl ?_
    simp only [i172, wp_iinc, wpE0, wpE1, wpE2, wpE3, wpE4, wpE5, wpJ, okS, lt4S, popR, litS, Int32.reduceLT, Int32.reduceLE, List.getElem?_cons_zero, List.getElem?_cons_succ, Bool.false_eq_true, ↓reduceIte, Nat.reduceMod, Nat.reduceDiv, Nat.reduceAdd, Nat.reduceSub, Nat.reduceMul, Nat.reduceLeDiff, Nat.reduceEqDiff, Nat.reduceBEq, Int.reduceToNat, Int.reduceAdd, Int32.reduceOfInt, Int64.reduceOfInt, Int32.reduceToNatClampNeg, Int32.reduceOfNat, Bool.or_self, Bool.or_false, Bool.false_or, Bool.true_or, Bool.or_true, true_and, and_true, false_and, and_false, List.set_cons_zero, List.set_cons_succ, List.take_succ_cons, List.take_zero, List.drop_succ_cons, List.drop_zero, List.reverse_cons, List.reverse_nil, List.nil_append, List.cons_append, List.length_cons, List.length_nil, Option.toList_some, Option.toList_none, not_true_eq_false, not_false_eq_true, forall_const, true_implies, false_implies, nrw, TTS, s148, shM, and01, bI_0, cmpS, bI_and, toL_le, toLS, i2lS, inM]
    exact h

theorem sh7L : sh 7 = (4, 0) ∧ rt 7 6 = 8 ∧ rt 7 7 = 9 ∧ rt 7 8 = 10 ∧ rt 7 9 = 11 ∧ rt 7 10 = 12 ∧ rt 7 11 = 13 ∧ rt 7 12 = 14 ∧ rt 7 13 = 15 ∧ rt 7 14 = 16 ∧ rt 7 15 = 17 ∧ rt 7 16 = 18 ∧ rt 7 17 = 19 ∧ rt 7 18 = 20 ∧ sh 8 = (0, 6) ∧ sh 9 = (0, 6) ∧ sh 10 = (0, 6) ∧ sh 11 = (0, 6) ∧ sh 12 = (0, 6) ∧ sh 13 = (0, 6) ∧ sh 14 = (0, 6) ∧ sh 15 = (0, 6) ∧ sh 16 = (0, 12) ∧ sh 17 = (0, 12) ∧ sh 18 = (0, 12) ∧ sh 19 = (0, 12) ∧ sh 20 = (0, 12) := by decide +kernel
theorem sh21L : sh 21 = (4, 0) ∧ rt 21 6 = 22 ∧ rt 21 7 = 23 ∧ rt 21 8 = 24 ∧ rt 21 9 = 25 ∧ rt 21 10 = 26 ∧ rt 21 11 = 27 ∧ rt 21 12 = 28 ∧ rt 21 13 = 29 ∧ rt 21 14 = 30 ∧ rt 21 15 = 31 ∧ rt 21 16 = 32 ∧ rt 21 17 = 33 ∧ rt 21 18 = 34 ∧ sh 22 = (0, 6) ∧ sh 23 = (0, 6) ∧ sh 24 = (0, 6) ∧ sh 25 = (0, 6) ∧ sh 26 = (0, 6) ∧ sh 27 = (0, 6) ∧ sh 28 = (0, 6) ∧ sh 29 = (0, 6) ∧ sh 30 = (0, 12) ∧ sh 31 = (0, 12) ∧ sh 32 = (0, 12) ∧ sh 33 = (0, 12) ∧ sh 34 = (0, 12) := by decide +kernel
theorem sh35L : sh 35 = (4, 0) ∧ rt 35 6 = 36 ∧ rt 35 7 = 37 ∧ rt 35 8 = 38 ∧ rt 35 9 = 39 ∧ rt 35 10 = 40 ∧ rt 35 11 = 41 ∧ rt 35 12 = 42 ∧ rt 35 13 = 43 ∧ rt 35 14 = 44 ∧ rt 35 15 = 45 ∧ rt 35 16 = 46 ∧ rt 35 17 = 47 ∧ rt 35 18 = 48 ∧ sh 36 = (0, 6) ∧ sh 37 = (0, 6) ∧ sh 38 = (0, 6) ∧ sh 39 = (0, 6) ∧ sh 40 = (0, 6) ∧ sh 41 = (0, 6) ∧ sh 42 = (0, 6) ∧ sh 43 = (0, 6) ∧ sh 44 = (0, 12) ∧ sh 45 = (0, 12) ∧ sh 46 = (0, 12) ∧ sh 47 = (0, 12) ∧ sh 48 = (0, 12) := by decide +kernel
theorem sh49L : sh 49 = (4, 0) ∧ rt 49 6 = 50 ∧ rt 49 7 = 51 ∧ rt 49 8 = 52 ∧ rt 49 9 = 53 ∧ rt 49 10 = 54 ∧ rt 49 11 = 55 ∧ rt 49 12 = 56 ∧ rt 49 13 = 57 ∧ rt 49 14 = 58 ∧ rt 49 15 = 59 ∧ rt 49 16 = 60 ∧ rt 49 17 = 61 ∧ rt 49 18 = 62 ∧ sh 50 = (0, 6) ∧ sh 51 = (0, 6) ∧ sh 52 = (0, 6) ∧ sh 53 = (0, 6) ∧ sh 54 = (0, 6) ∧ sh 55 = (0, 6) ∧ sh 56 = (0, 6) ∧ sh 57 = (0, 6) ∧ sh 58 = (0, 12) ∧ sh 59 = (0, 12) ∧ sh 60 = (0, 12) ∧ sh 61 = (0, 12) ∧ sh 62 = (0, 12) := by decide +kernel
theorem sh65L : sh 65 = (4, 0) ∧ rt 65 6 = 66 ∧ rt 65 7 = 67 ∧ rt 65 8 = 68 ∧ rt 65 9 = 69 ∧ rt 65 10 = 70 ∧ rt 65 11 = 71 ∧ rt 65 12 = 72 ∧ rt 65 13 = 73 ∧ rt 65 14 = 74 ∧ rt 65 15 = 75 ∧ rt 65 16 = 76 ∧ rt 65 17 = 77 ∧ rt 65 18 = 78 ∧ sh 66 = (0, 6) ∧ sh 67 = (0, 6) ∧ sh 68 = (0, 6) ∧ sh 69 = (0, 6) ∧ sh 70 = (0, 6) ∧ sh 71 = (0, 6) ∧ sh 72 = (0, 6) ∧ sh 73 = (0, 6) ∧ sh 74 = (0, 12) ∧ sh 75 = (0, 12) ∧ sh 76 = (0, 12) ∧ sh 77 = (0, 12) ∧ sh 78 = (0, 12) := by decide +kernel
theorem R_nb {m : xM} (hR : REL m) : m.1 90 3 = m.1 7 4 := hR.club.1.1.2.2.2.1.symm
theorem R_nh {m : xM} (hR : REL m) : m.1 90 4 = m.1 7 5 := hR.club.1.1.2.2.2.2.symm
theorem R_wa {m : xM} (hR : REL m) : m.1 7 0 = m.1 90 0 := hR.club.1.1.1
theorem R_wi {m : xM} (hR : REL m) : m.1 7 1 = m.1 90 1 := hR.club.1.1.2.1
theorem R_mu {m : xM} (hR : REL m) : m.1 7 2 = m.1 90 2 := hR.club.1.1.2.2.1
theorem V_nb {m : xM} (hR : REL m) : bt (m.1 7 4) 0 6 := hR.club.2.2.2.1.1.2.2.2.1
theorem V_nh {m : xM} (hR : REL m) : bt (m.1 7 5) 0 12 := hR.club.2.2.2.1.1.2.2.2.2
theorem V_wa {m : xM} (hR : REL m) : bt (m.1 7 0) 0 30 := hR.club.2.2.2.1.1.1
theorem V_wi {m : xM} (hR : REL m) : bt (m.1 7 1) 0 40 := hR.club.2.2.2.1.1.2.1
theorem V_mu {m : xM} (hR : REL m) : m.1 7 2 = 0 ∨ m.1 7 2 = 1 := hR.club.2.2.2.1.1.2.2.1
theorem ix_b {a : Int32} {n : Nat} {l : Int} (hl : 0 ≤ l) (h : bt a l n) : ix a ≤ n ∧ a = nI (ix a) := by
  have h1 := h.1
  have h2 := h.2
  have e : ¬ a < 0 := by rw [Int32.lt_iff_toInt_lt]; show ¬ a.toInt < 0; omega
  refine ⟨?_, (ix_of e).1⟩
  show a.toInt.toNat ≤ n
  omega
theorem L_nb {m : xM} (hR : REL m) : ix (m.1 7 4) ≤ 6 := (ix_b (by decide) (V_nb hR)).1
theorem L_nh {m : xM} (hR : REL m) : ix (m.1 7 5) ≤ 12 := (ix_b (by decide) (V_nh hR)).1
theorem R_b {m : xM} (hR : REL m) {j : Nat} (hj : j < ix (m.1 7 4)) : m.1 12 j = m.1 92 (4 * j + 0) ∧ m.1 13 j = m.1 92 (4 * j + 1) ∧ m.1 14 j = m.1 92 (4 * j + 2) ∧ m.1 15 j = m.1 92 (4 * j + 3) ∧ m.1 8 j = m.1 90 (5 + 4 * j + 0) ∧ m.1 9 j = m.1 90 (5 + 4 * j + 1) ∧ m.1 10 j = m.1 90 (5 + 4 * j + 2) ∧ m.1 11 j = m.1 90 (5 + 4 * j + 3) := by
  have h6 := L_nb hR
  have e1 := hR.club.2.1.1 j (by omega)
  have e2 := hR.club.1.2.1 j (by rw [R_nb hR]; exact hj)
  exact ⟨e1.1, e1.2.1, e1.2.2.1, e1.2.2.2, e2.1, e2.2.1, e2.2.2.1, e2.2.2.2⟩
theorem R_h {m : xM} (hR : REL m) {j : Nat} (hj : j < ix (m.1 7 5)) : m.1 19 j = m.1 92 (24 + 2 * j) ∧ m.1 20 j = m.1 92 (24 + 2 * j + 1) ∧ m.1 16 j = m.1 90 (29 + 3 * j + 0) ∧ m.1 17 j = m.1 90 (29 + 3 * j + 1) ∧ m.1 18 j = m.1 90 (29 + 3 * j + 2) := by
  have e1 := hR.club.2.1.2 j (by rw [R_nh hR]; exact hj)
  have e2 := hR.club.1.2.2 j (by rw [R_nh hR]; exact hj)
  exact ⟨e1.1, e1.2, e2.1, e2.2.1, e2.2.2⟩
theorem V_b {m : xM} (hR : REL m) {j : Nat} (hj : j < ix (m.1 7 4)) : bt (m.1 12 j) 0 4 ∧ bt (m.1 13 j) 0 100 ∧ bt (m.1 14 j) 0 70 ∧ bt (m.1 8 j) 1 30 ∧ bt (m.1 9 j) 1 30 ∧ bt (m.1 10 j) 0 9 ∧ bt (m.1 11 j) 0 20 := by
  have e1 := hR.club.2.2.2.2.1 j hj
  have e2 := hR.club.2.2.2.1.2.1 j hj
  exact ⟨e1.1, e1.2.1, e1.2.2, e2.1, e2.2.1, e2.2.2.1, e2.2.2.2⟩
theorem V_h {m : xM} (hR : REL m) {j : Nat} (hj : j < ix (m.1 7 5)) : bt (m.1 19 j) 0 3 ∧ bt (m.1 20 j) 0 1000 ∧ (0 ≤ (m.1 16 j).toInt ∧ (m.1 16 j).toInt < (m.1 7 4).toInt) ∧ bt (m.1 17 j) 20 150 ∧ bt (m.1 18 j) 1 60 := by
  have e1 := hR.club.2.2.2.2.2 j hj
  have e2 := hR.club.2.2.2.1.2.2.1 j hj
  exact ⟨e1.1, e1.2, e2.1, e2.2.1, e2.2.2⟩
theorem in_ix {a N : Int32} {n : Nat} (hN : bt N 0 n) (hn : n ≤ 1000) (h : ¬ a < 0 ∧ ¬ N ≤ a) : ∃ j, j < n ∧ a = nI j ∧ j < ix N ∧ ix (nI j) = j ∧ vp_in (nI j) n := by
  obtain ⟨e1, e2⟩ := ix_of h.1
  have h2 := h.2
  have h3 := (ix_b (by decide) hN).1
  rw [e1, ix_le _ e2] at h2
  refine ⟨ix a, by omega, e1, by omega, ?_, ?_⟩
  · rw [← e1]
  · rw [← e1]; exact xin h.1 (by omega)
theorem isB_of {m : xM} (hR : REL m) {a : Int32} (h : ¬ a < 0 ∧ ¬ m.1 7 4 ≤ a) : ∃ j, j < 6 ∧ a = nI j ∧ j < ix (m.1 7 4) ∧ ix (nI j) = j ∧ vp_in (nI j) 6 := in_ix (V_nb hR) (by decide) h
theorem isH_of {m : xM} (hR : REL m) {a : Int32} (h : ¬ a < 0 ∧ ¬ m.1 7 5 ≤ a) : ∃ j, j < 12 ∧ a = nI j ∧ j < ix (m.1 7 5) ∧ ix (nI j) = j ∧ vp_in (nI j) 12 := in_ix (V_nh hR) (by decide) h
theorem in_1 {a N : Int32} {u : Int} (hN : bt N 0 u) : (0 ≤ a ∧ a ≤ N - 1) = (¬ a < 0 ∧ ¬ N ≤ a) := by
  have h1 := hN.1
  have h2 := N.toInt_lt
  have e : (N - 1).toInt = N.toInt - 1 := by
    rw [fb_subI (by show -2147483648 ≤ N.toInt - 1; omega) (by show N.toInt - 1 < 2147483648; omega)]; rfl
  apply propext
  simp only [Int32.lt_iff_toInt_lt, Int32.le_iff_toInt_le, e]
  show (0 : Int) ≤ a.toInt ∧ _ ↔ ¬ a.toInt < 0 ∧ _
  omega
theorem m_isB {m : xM} (hR : REL m) (a : Int32) : (0 ≤ a ∧ a ≤ m.1 90 3 - 1) = (¬ a < 0 ∧ ¬ m.1 7 4 ≤ a) := by rw [R_nb hR]; exact in_1 (V_nb hR)
theorem m_isH {m : xM} (hR : REL m) (a : Int32) : (0 ≤ a ∧ a ≤ m.1 90 4 - 1) = (¬ a < 0 ∧ ¬ m.1 7 5 ≤ a) := by rw [R_nh hR]; exact in_1 (V_nh hR)

