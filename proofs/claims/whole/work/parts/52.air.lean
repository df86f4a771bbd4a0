def aB (a n : Int32) : Int32 := (70 - 6 * a + (5 * n + a) - 1) / (5 * n + a)
def beat (n : Int32) (a : Nat) : Prop := fi (fun l => ¬ aB (nI a) n < aB (nI l) n) a < a
def beatD (n : Int32) (a : Nat) : Decidable (beat n a) := inferInstanceAs (Decidable (fi (fun l => ¬ aB (nI a) n < aB (nI l) n) a < a))
def cAir (n : Int32) : Nat → Int32
  | 0 => 0
  | k + 1 => if fi (fun l => ¬ aB (nI k) n < aB (nI l) n) k < k then cAir n k else cAir n k ||| 1 <<< (nI k &&& 31)
def isL (q : Nat → Prop) [DecidablePred q] : Nat → Int32
  | 0 => 1
  | o + 1 => if isL q o = 0 then 0 else if q o then 0 else 1
def mAir (n : Int32) : Nat → Int32
  | 0 => 0
  | k + 1 => mAir n k ||| (if isL (fun o => (¬ nI k < nI o ∧ ¬ aB (nI k) n < aB (nI o) n) ∧ (nI o < nI k ∨ aB (nI o) n < aB (nI k) n)) 10 = 0 then (0 : Int32) else (1 : Int32) <<< (nI k &&& 31))
theorem air_eq : cAir 1 10 = mAir 1 10 ∧ cAir 2 10 = mAir 2 10 ∧ cAir 3 10 = mAir 3 10 ∧ cAir 4 10 = mAir 4 10 := by decide +kernel
def aN (n : Int32) : Prop := ∀ l, l < 10 → ¬ 5 * n + nI l < 1 ∧ ¬ 5 * n + nI l = 0
theorem aN_1 : aN 1 ∧ aN 2 ∧ aN 3 ∧ aN 4 := by unfold aN; decide +kernel
theorem isL01 (q : Nat → Prop) [DecidablePred q] : ∀ n, isL q n = 0 ∨ isL q n = 1
  | 0 => Or.inr rfl
  | n + 1 => by
    unfold isL
    split
    · exact Or.inl rfl
    · split
      · exact Or.inl rfl
      · exact Or.inr rfl

def S109 (as : List Value) (m : xM) (Q : xQt) : Prop := match as with
  | [.int a, .int n] => (¬ 5 * n + a < 1) ∧ (¬ 5 * n + a = 0) ∧ Q (some (.int (aB a n))) (m)
  | _ => False
theorem s109 (a : Int32) (n : Int32) (m : xM) (Q : xQt) : S109 [.int a, .int n] m Q = ((¬ 5 * n + a < 1) ∧ (¬ 5 * n + a = 0) ∧ Q (some (.int (aB a n))) (m)) := rfl
theorem t109 {G : xG} : ∀ as m Q, S109 as m Q → Tri G 109 as m Q := by
  intro as m Q h
  match as, h with
  | [.int a, .int n], h =>
    obtain ⟨h1, h2, h⟩ := h
    refine tri_wp (T := TT [(93, S93)]) (ls := [.int a, .int n]) (TTc t93 TTn) c109 (by decide +kernel) (rt0 := some .int) rfl rfl (Nat.le_of_ble_eq_true rfl) rfl ?_
    simp only [i109, wp_iinc, wpE0, wpE1, wpE2, wpE3, wpE4, wpE5, wpJ, okS, lt4S, popR, litS, Int32.reduceLT, Int32.reduceLE, List.getElem?_cons_zero, List.getElem?_cons_succ, Bool.false_eq_true, ↓reduceIte, Nat.reduceMod, Nat.reduceDiv, Nat.reduceAdd, Nat.reduceSub, Nat.reduceMul, Nat.reduceLeDiff, Nat.reduceEqDiff, Nat.reduceBEq, Int.reduceToNat, Int.reduceAdd, Int32.reduceOfInt, Int64.reduceOfInt, Int32.reduceToNatClampNeg, Int32.reduceOfNat, Bool.or_self, Bool.or_false, Bool.false_or, Bool.true_or, Bool.or_true, true_and, and_true, false_and, and_false, List.set_cons_zero, List.set_cons_succ, List.take_succ_cons, List.take_zero, List.drop_succ_cons, List.drop_zero, List.reverse_cons, List.reverse_nil, List.nil_append, List.cons_append, List.length_cons, List.length_nil, Option.toList_some, Option.toList_none, not_true_eq_false, not_false_eq_true, forall_const, true_implies, false_implies, nrw, TTS, s93, i93, Int32.not_lt.mp h1, not_true_eq_false, not_false_eq_true, and_true, true_and, and_false, false_and, and_self, or_true, true_or, or_false, false_or, ↓reduceIte, if_true, if_false, eq_self, h1, h2]
    exact h

def S209 (as : List Value) (m : xM) (Q : xQt) : Prop := match as with
  | [.int a, .int n] => (¬ 5 * n + a = 0) ∧ Q (some (.int (aB a n))) (m)
  | _ => False
theorem s209 (a : Int32) (n : Int32) (m : xM) (Q : xQt) : S209 [.int a, .int n] m Q = ((¬ 5 * n + a = 0) ∧ Q (some (.int (aB a n))) (m)) := rfl
theorem t209 {G : xG} : ∀ as m Q, S209 as m Q → Tri G 209 as m Q := by
  intro as m Q h
  match as, h with
  | [.int a, .int n], h =>
    obtain ⟨h2, h⟩ := h
    refine tri_wp (T := TT []) (ls := [.int a, .int n, .null]) TTn c209 (by decide +kernel) (rt0 := some .int) rfl rfl (Nat.le_of_ble_eq_true rfl) rfl ?_
    simp only [i209, wp_iinc, wpE0, wpE1, wpE2, wpE3, wpE4, wpE5, wpJ, okS, lt4S, popR, litS, Int32.reduceLT, Int32.reduceLE, List.getElem?_cons_zero, List.getElem?_cons_succ, Bool.false_eq_true, ↓reduceIte, Nat.reduceMod, Nat.reduceDiv, Nat.reduceAdd, Nat.reduceSub, Nat.reduceMul, Nat.reduceLeDiff, Nat.reduceEqDiff, Nat.reduceBEq, Int.reduceToNat, Int.reduceAdd, Int32.reduceOfInt, Int64.reduceOfInt, Int32.reduceToNatClampNeg, Int32.reduceOfNat, Bool.or_self, Bool.or_false, Bool.false_or, Bool.true_or, Bool.or_true, true_and, and_true, false_and, and_false, List.set_cons_zero, List.set_cons_succ, List.take_succ_cons, List.take_zero, List.drop_succ_cons, List.drop_zero, List.reverse_cons, List.reverse_nil, List.nil_append, List.cons_append, List.length_cons, List.length_nil, Option.toList_some, Option.toList_none, not_true_eq_false, not_false_eq_true, forall_const, true_implies, false_implies, nrw, TTS, not_true_eq_false, not_false_eq_true, and_true, true_and, and_false, false_and, and_self, or_true, true_or, or_false, false_or, ↓reduceIte, if_true, if_false, eq_self, h2]
    exact h

theorem t108x {G : xG} {m : xM} {Q : xQt} {a : Nat} {n : Int32} (ha : a < 10) (hN : aN n) (h : Q (some (.int (bI (fi (fun l => ¬ aB (nI a) n < aB (nI l) n) a < a)))) m) : Tri G 108 [.int (nI a), .int n] m Q := by
  refine tri_vc (ls := [.int (nI a), .int n, .null]) (by decide +kernel) rfl (Nat.le_of_ble_eq_true rfl) ?_
  refine vc_seq (pc1 := 2) (ls1 := [.int (nI a), .int n, .int 0]) (m1 := m) (vc_wp (T := TT [(109, S109)]) (TTc t109 TTn) (fun p => p == 2) (rt0 := some .boolean) rfl c108 rfl ?_) ?_
  · simp (disch := omega) only [i108, wp_iinc, wpE0, wpE1, wpE2, wpE3, wpE4, wpE5, wpJ, okS, lt4S, popR, litS, Int32.reduceLT, Int32.reduceLE, List.getElem?_cons_zero, List.getElem?_cons_succ, Bool.false_eq_true, ↓reduceIte, Nat.reduceMod, Nat.reduceDiv, Nat.reduceAdd, Nat.reduceSub, Nat.reduceMul, Nat.reduceLeDiff, Nat.reduceEqDiff, Nat.reduceBEq, Int.reduceToNat, Int.reduceAdd, Int32.reduceOfInt, Int64.reduceOfInt, Int32.reduceToNatClampNeg, Int32.reduceOfNat, Bool.or_self, Bool.or_false, Bool.false_or, Bool.true_or, Bool.or_true, true_and, and_true, false_and, and_false, List.set_cons_zero, List.set_cons_succ, List.take_succ_cons, List.take_zero, List.drop_succ_cons, List.drop_zero, List.reverse_cons, List.reverse_nil, List.nil_append, List.cons_append, List.length_cons, List.length_nil, Option.toList_some, Option.toList_none, not_true_eq_false, not_false_eq_true, forall_const, true_implies, false_implies, nrw, TTS, s109, and01, subS, not_true_eq_false, not_false_eq_true, and_true, true_and, and_false, false_and, and_self, or_true, true_or, or_false, false_or, ↓reduceIte, if_true, if_false, eq_self]
  refine vc_find a (fun i => [.int (nI a), .int n, .int (nI i)]) m (fun l => ¬ aB (nI a) n < aB (nI l) n) (fun i hi hp hf => ?_) (fun i hi hp => ?_) (fun hf hk => ?_)
  · refine vc_wp (T := TT [(109, S109)]) (TTc t109 TTn) (fun _ => false) (rt0 := some .boolean) rfl (ckl_drop 2 c108) rfl ?_
    have hi2 : ¬ nI a ≤ nI i := nI_ge hi (by omega)
    have hN2 := hN i (by omega)
    have hN3 := hN a (by omega)
    simp (disch := omega) only [List.drop, i108, wp_iinc, wpE0, wpE1, wpE2, wpE3, wpE4, wpE5, wpJ, okS, lt4S, popR, litS, Int32.reduceLT, Int32.reduceLE, List.getElem?_cons_zero, List.getElem?_cons_succ, Bool.false_eq_true, ↓reduceIte, Nat.reduceMod, Nat.reduceDiv, Nat.reduceAdd, Nat.reduceSub, Nat.reduceMul, Nat.reduceLeDiff, Nat.reduceEqDiff, Nat.reduceBEq, Int.reduceToNat, Int.reduceAdd, Int32.reduceOfInt, Int64.reduceOfInt, Int32.reduceToNatClampNeg, Int32.reduceOfNat, Bool.or_self, Bool.or_false, Bool.false_or, Bool.true_or, Bool.or_true, true_and, and_true, false_and, and_false, List.set_cons_zero, List.set_cons_succ, List.take_succ_cons, List.take_zero, List.drop_succ_cons, List.drop_zero, List.reverse_cons, List.reverse_nil, List.nil_append, List.cons_append, List.length_cons, List.length_nil, Option.toList_some, Option.toList_none, not_true_eq_false, not_false_eq_true, forall_const, true_implies, false_implies, nrw, TTS, s109, hN2, and01, hN3, subS, nI_1, hi2, hp, not_true_eq_false, not_false_eq_true, and_true, true_and, and_false, false_and, and_self, or_true, true_or, or_false, false_or, ↓reduceIte, if_true, if_false, eq_self]
    rw [bI_t (by rw [hf]; exact hi)] at h
    exact h
  · refine vc_wp (T := TT [(109, S109)]) (TTc t109 TTn) (fun _ => false) (rt0 := some .boolean) rfl (ckl_drop 2 c108) rfl ?_
    have hi2 : ¬ nI a ≤ nI i := nI_ge hi (by omega)
    have hN2 := hN i (by omega)
    have hN3 := hN a (by omega)
    have hp2 := hp
    try simp only [Classical.not_not] at hp2
    simp (disch := omega) only [List.drop, i108, wp_iinc, wpE0, wpE1, wpE2, wpE3, wpE4, wpE5, wpJ, okS, lt4S, popR, litS, Int32.reduceLT, Int32.reduceLE, List.getElem?_cons_zero, List.getElem?_cons_succ, Bool.false_eq_true, ↓reduceIte, Nat.reduceMod, Nat.reduceDiv, Nat.reduceAdd, Nat.reduceSub, Nat.reduceMul, Nat.reduceLeDiff, Nat.reduceEqDiff, Nat.reduceBEq, Int.reduceToNat, Int.reduceAdd, Int32.reduceOfInt, Int64.reduceOfInt, Int32.reduceToNatClampNeg, Int32.reduceOfNat, Bool.or_self, Bool.or_false, Bool.false_or, Bool.true_or, Bool.or_true, true_and, and_true, false_and, and_false, List.set_cons_zero, List.set_cons_succ, List.take_succ_cons, List.take_zero, List.drop_succ_cons, List.drop_zero, List.reverse_cons, List.reverse_nil, List.nil_append, List.cons_append, List.length_cons, List.length_nil, Option.toList_some, Option.toList_none, not_true_eq_false, not_false_eq_true, forall_const, true_implies, false_implies, nrw, TTS, s109, hN2, and01, hN3, subS, nI_1, hi2, hp2, (show ∀ x : Nat, 20 + (x + 1) = 20 + x + 1 from fun _ => rfl), not_true_eq_false, not_false_eq_true, and_true, true_and, and_false, false_and, and_self, or_true, true_or, or_false, false_or, ↓reduceIte, if_true, if_false, eq_self]

  · have hi2 : nI a ≤ nI a := Int32.le_refl _
    refine vc_wp (T := TT [(109, S109)]) (TTc t109 TTn) (fun _ => false) (rt0 := some .boolean) rfl (ckl_drop 2 c108) rfl ?_
    simp (disch := omega) only [List.drop, i108, wp_iinc, wpE0, wpE1, wpE2, wpE3, wpE4, wpE5, wpJ, okS, lt4S, popR, litS, Int32.reduceLT, Int32.reduceLE, List.getElem?_cons_zero, List.getElem?_cons_succ, Bool.false_eq_true, ↓reduceIte, Nat.reduceMod, Nat.reduceDiv, Nat.reduceAdd, Nat.reduceSub, Nat.reduceMul, Nat.reduceLeDiff, Nat.reduceEqDiff, Nat.reduceBEq, Int.reduceToNat, Int.reduceAdd, Int32.reduceOfInt, Int64.reduceOfInt, Int32.reduceToNatClampNeg, Int32.reduceOfNat, Bool.or_self, Bool.or_false, Bool.false_or, Bool.true_or, Bool.or_true, true_and, and_true, false_and, and_false, List.set_cons_zero, List.set_cons_succ, List.take_succ_cons, List.take_zero, List.drop_succ_cons, List.drop_zero, List.reverse_cons, List.reverse_nil, List.nil_append, List.cons_append, List.length_cons, List.length_nil, Option.toList_some, Option.toList_none, not_true_eq_false, not_false_eq_true, forall_const, true_implies, false_implies, nrw, TTS, s109, and01, hi2, not_true_eq_false, not_false_eq_true, and_true, true_and, and_false, false_and, and_self, or_true, true_or, or_false, false_or, ↓reduceIte, if_true, if_false, eq_self]
    rw [bI_f (by rw [hf]; omega)] at h
    exact h

def S108 (as : List Value) (m : xM) (Q : xQt) : Prop := match as with
  | [.int a, .int n] => (a = nI (ix a) ∧ ix a < 10) ∧ aN n ∧ Q (some (.int (bI (fi (fun l => ¬ aB (nI (ix a)) n < aB (nI l) n) (ix a) < ix a)))) m
  | _ => False
theorem s108 (a : Int32) (n : Int32) (m : xM) (Q : xQt) : S108 [.int a, .int n] m Q = ((a = nI (ix a) ∧ ix a < 10) ∧ aN n ∧ Q (some (.int (bI (fi (fun l => ¬ aB (nI (ix a)) n < aB (nI l) n) (ix a) < ix a)))) m) := rfl
theorem t108 {G : xG} : ∀ as m Q, S108 as m Q → Tri G 108 as m Q := by
  intro as m Q h
  match as, h with
  | [.int a, .int n], h =>
    obtain ⟨⟨h1, h2⟩, hN, h⟩ := h
    rw [h1]
    exact t108x h2 hN h

theorem t107x {G : xG} {m : xM} {Q : xQt} {n : Int32} (hN : aN n) (h : Q (some (.int (cAir n 10))) m) : Tri G 107 [.int n] m Q := by
  refine tri_vc (ls := [.int n, .null, .null]) (by decide +kernel) rfl (Nat.le_of_ble_eq_true rfl) ?_
  refine vc_seq (pc1 := 4) (ls1 := [.int n, .int 0, .int 0]) (m1 := m) (vc_wp (T := TT [(108, S108)]) (TTc t108 TTn) (fun p => p == 4) (rt0 := some .int) rfl c107 rfl ?_) ?_
  · simp (disch := omega) only [i107, wp_iinc, wpE0, wpE1, wpE2, wpE3, wpE4, wpE5, wpJ, okS, lt4S, popR, litS, Int32.reduceLT, Int32.reduceLE, List.getElem?_cons_zero, List.getElem?_cons_succ, Bool.false_eq_true, ↓reduceIte, Nat.reduceMod, Nat.reduceDiv, Nat.reduceAdd, Nat.reduceSub, Nat.reduceMul, Nat.reduceLeDiff, Nat.reduceEqDiff, Nat.reduceBEq, Int.reduceToNat, Int.reduceAdd, Int32.reduceOfInt, Int64.reduceOfInt, Int32.reduceToNatClampNeg, Int32.reduceOfNat, Bool.or_self, Bool.or_false, Bool.false_or, Bool.true_or, Bool.or_true, true_and, and_true, false_and, and_false, List.set_cons_zero, List.set_cons_succ, List.take_succ_cons, List.take_zero, List.drop_succ_cons, List.drop_zero, List.reverse_cons, List.reverse_nil, List.nil_append, List.cons_append, List.length_cons, List.length_nil, Option.toList_some, Option.toList_none, not_true_eq_false, not_false_eq_true, forall_const, true_implies, false_implies, nrw, TTS, s108, hN, and01, bI_0, subS, not_true_eq_false, not_false_eq_true, and_true, true_and, and_false, false_and, and_self, or_true, true_or, or_false, false_or, ↓reduceIte, if_true, if_false, eq_self]
  refine vc_for 10 (fun i => [.int n, .int (cAir n i), .int (nI i)]) (fun i => m) (fun i hi => ?_) ?_
  · refine vc_wp (T := TT [(108, S108)]) (TTc t108 TTn) (fun _ => false) (rt0 := some .int) rfl (ckl_drop 4 c107) rfl ?_
    have hi2 : ¬ (9 : Int32) < nI i := nI_nlt (a := 9) (by omega) (by omega)
    have hi3 : (nI i).toNatClampNeg = i := nI_clamp (by omega)
    simp (disch := omega) only [List.drop, i107, wp_iinc, wpE0, wpE1, wpE2, wpE3, wpE4, wpE5, wpJ, okS, lt4S, popR, litS, Int32.reduceLT, Int32.reduceLE, List.getElem?_cons_zero, List.getElem?_cons_succ, Bool.false_eq_true, ↓reduceIte, Nat.reduceMod, Nat.reduceDiv, Nat.reduceAdd, Nat.reduceSub, Nat.reduceMul, Nat.reduceLeDiff, Nat.reduceEqDiff, Nat.reduceBEq, Int.reduceToNat, Int.reduceAdd, Int32.reduceOfInt, Int64.reduceOfInt, Int32.reduceToNatClampNeg, Int32.reduceOfNat, Bool.or_self, Bool.or_false, Bool.false_or, Bool.true_or, Bool.or_true, true_and, and_true, false_and, and_false, List.set_cons_zero, List.set_cons_succ, List.take_succ_cons, List.take_zero, List.drop_succ_cons, List.drop_zero, List.reverse_cons, List.reverse_nil, List.nil_append, List.cons_append, List.length_cons, List.length_nil, Option.toList_some, Option.toList_none, not_true_eq_false, not_false_eq_true, forall_const, true_implies, false_implies, nrw, TTS, s108, hN, and01, bI_0, hi3, hi, cAir, subS, hi2, nI_1, fd, not_true_eq_false, not_false_eq_true, and_true, true_and, and_false, false_and, and_self, or_true, true_or, or_false, false_or, ↓reduceIte, if_true, if_false, eq_self]
    refine ⟨fun z => ?_, fun z => ?_⟩
    · rw [if_neg z]
    · rw [if_pos (Classical.not_not.mp z)]
  · have hi2 : (9 : Int32) < nI 10 := nI_lt (a := 9) (by omega) (by omega)
    refine vc_wp (T := TT [(108, S108)]) (TTc t108 TTn) (fun _ => false) (rt0 := some .int) rfl (ckl_drop 4 c107) rfl ?_
    simp (disch := omega) only [List.drop, i107, wp_iinc, wpE0, wpE1, wpE2, wpE3, wpE4, wpE5, wpJ, okS, lt4S, popR, litS, Int32.reduceLT, Int32.reduceLE, List.getElem?_cons_zero, List.getElem?_cons_succ, Bool.false_eq_true, ↓reduceIte, Nat.reduceMod, Nat.reduceDiv, Nat.reduceAdd, Nat.reduceSub, Nat.reduceMul, Nat.reduceLeDiff, Nat.reduceEqDiff, Nat.reduceBEq, Int.reduceToNat, Int.reduceAdd, Int32.reduceOfInt, Int64.reduceOfInt, Int32.reduceToNatClampNeg, Int32.reduceOfNat, Bool.or_self, Bool.or_false, Bool.false_or, Bool.true_or, Bool.or_true, true_and, and_true, false_and, and_false, List.set_cons_zero, List.set_cons_succ, List.take_succ_cons, List.take_zero, List.drop_succ_cons, List.drop_zero, List.reverse_cons, List.reverse_nil, List.nil_append, List.cons_append, List.length_cons, List.length_nil, Option.toList_some, Option.toList_none, not_true_eq_false, not_false_eq_true, forall_const, true_implies, false_implies, nrw, TTS, s108, hN, and01, bI_0, hi2, not_true_eq_false, not_false_eq_true, and_true, true_and, and_false, false_and, and_self, or_true, true_or, or_false, false_or, ↓reduceIte, if_true, if_false, eq_self]
    exact h

def S107 (as : List Value) (m : xM) (Q : xQt) : Prop := match as with
  | [.int n] => aN n ∧ Q (some (.int (cAir n 10))) m
  | _ => False
theorem s107 (n : Int32) (m : xM) (Q : xQt) : S107 [.int n] m Q = (aN n ∧ Q (some (.int (cAir n 10))) m) := rfl
theorem t107 {G : xG} : ∀ as m Q, S107 as m Q → Tri G 107 as m Q := by
  intro as m Q h
  match as, h with
  | [.int n], h =>
    obtain ⟨hN, h⟩ := h
    exact t107x hN h

theorem m208 {G : xG} {m : xM} {Q : xQt} {n : Int32} (hn1 : 1 ≤ n) (hn2 : n ≤ 4) (hN : aN n) (h : Q (some (.long (mAir n 10).toInt64)) (xa m 86 (upd (m.1 86) 0 0))) : Tri G 208 [.ref 86, .int n] m Q := by
  refine tri_vc (ls := [.ref 86, .int n, .null, .null, .null, .null, .null]) (by decide +kernel) rfl (Nat.le_of_ble_eq_true rfl) ?_
  refine vc_seq (pc1 := 25) (ls1 := [.ref 86, .int n, .int 0, .int 0, .null, .null, .null]) (m1 := (xa m 86 (upd (m.1 86) 0 0))) (vc_wp (T := TT [(148, S148), (209, S209)]) (TTc t148 (TTc t209 TTn)) (fun p => p == 25) (rt0 := some .long) rfl c208 rfl ?_) ?_
  · simp (disch := omega) only [i208, wp_iinc, wpE0, wpE1, wpE2, wpE3, wpE4, wpE5, wpJ, okS, lt4S, popR, litS, Int32.reduceLT, Int32.reduceLE, List.getElem?_cons_zero, List.getElem?_cons_succ, Bool.false_eq_true, ↓reduceIte, Nat.reduceMod, Nat.reduceDiv, Nat.reduceAdd, Nat.reduceSub, Nat.reduceMul, Nat.reduceLeDiff, Nat.reduceEqDiff, Nat.reduceBEq, Int.reduceToNat, Int.reduceAdd, Int32.reduceOfInt, Int64.reduceOfInt, Int32.reduceToNatClampNeg, Int32.reduceOfNat, Bool.or_self, Bool.or_false, Bool.false_or, Bool.true_or, Bool.or_true, true_and, and_true, false_and, and_false, List.set_cons_zero, List.set_cons_succ, List.take_succ_cons, List.take_zero, List.drop_succ_cons, List.drop_zero, List.reverse_cons, List.reverse_nil, List.nil_append, List.cons_append, List.length_cons, List.length_nil, Option.toList_some, Option.toList_none, not_true_eq_false, not_false_eq_true, forall_const, true_implies, false_implies, nrw, TTS, s148, s209, shM, shO, and01, bI_0, bI_and, isRl, cmpS, toLS, toL_le, toL_lt, i2lS, inM, Int64.reduceLE, Int64.reduceLT, xa_1, xa_2, xa_xa, upd_at, updU, linS, nI_add, nI_s2, clN, inN, inLS, Nat.reduceEqDiff, ↓reduceIte, not_true_eq_false, not_false_eq_true, and_true, true_and, and_false, false_and, and_self, or_true, true_or, or_false, false_or, ↓reduceIte, if_true, if_false, eq_self, hn1, hn2, subS, not_true_eq_false, not_false_eq_true, and_true, true_and, and_false, false_and, and_self, or_true, true_or, or_false, false_or, ↓reduceIte, if_true, if_false, eq_self]
  refine vc_for 10 (fun k => [.ref 86, .int n, .int (mAir n k), .int (nI k), .null, .null, .null]) (fun _ => (xa m 86 (upd (m.1 86) 0 0))) (fun k hk => ?_) ?_
  · have hk2 : ¬ (10 : Int32) ≤ nI k := nI_ge (b := 10) hk (by omega)
    refine vc_seq (pc1 := 37) (ls1 := [.ref 86, .int n, .int (mAir n k), .int (nI k), .int 1, .int 0, .null]) (m1 := (xa m 86 (upd (m.1 86) 0 0))) (vc_wp (T := TT [(148, S148), (209, S209)]) (TTc t148 (TTc t209 TTn)) (fun p => p == 37) (rt0 := some .long) rfl (ckl_drop 15 c208) rfl ?_) ?_
    · simp (disch := omega) only [List.drop, i208, wp_iinc, wpE0, wpE1, wpE2, wpE3, wpE4, wpE5, wpJ, okS, lt4S, popR, litS, Int32.reduceLT, Int32.reduceLE, List.getElem?_cons_zero, List.getElem?_cons_succ, Bool.false_eq_true, ↓reduceIte, Nat.reduceMod, Nat.reduceDiv, Nat.reduceAdd, Nat.reduceSub, Nat.reduceMul, Nat.reduceLeDiff, Nat.reduceEqDiff, Nat.reduceBEq, Int.reduceToNat, Int.reduceAdd, Int32.reduceOfInt, Int64.reduceOfInt, Int32.reduceToNatClampNeg, Int32.reduceOfNat, Bool.or_self, Bool.or_false, Bool.false_or, Bool.true_or, Bool.or_true, true_and, and_true, false_and, and_false, List.set_cons_zero, List.set_cons_succ, List.take_succ_cons, List.take_zero, List.drop_succ_cons, List.drop_zero, List.reverse_cons, List.reverse_nil, List.nil_append, List.cons_append, List.length_cons, List.length_nil, Option.toList_some, Option.toList_none, not_true_eq_false, not_false_eq_true, forall_const, true_implies, false_implies, nrw, TTS, s148, s209, shM, shO, and01, bI_0, bI_and, isRl, cmpS, toLS, toL_le, toL_lt, i2lS, inM, Int64.reduceLE, Int64.reduceLT, xa_1, xa_2, xa_xa, upd_at, updU, linS, nI_add, nI_s2, clN, inN, inLS, Nat.reduceEqDiff, ↓reduceIte, not_true_eq_false, not_false_eq_true, and_true, true_and, and_false, false_and, and_self, or_true, true_or, or_false, false_or, ↓reduceIte, if_true, if_false, eq_self, hk2, subS, not_true_eq_false, not_false_eq_true, and_true, true_and, and_false, false_and, and_self, or_true, true_or, or_false, false_or, ↓reduceIte, if_true, if_false, eq_self]
    refine vc_for 10 (fun o => [.ref 86, .int n, .int (mAir n k), .int (nI k), .int (isL (fun o => (¬ nI k < nI o ∧ ¬ aB (nI k) n < aB (nI o) n) ∧ (nI o < nI k ∨ aB (nI o) n < aB (nI k) n)) o), .int (nI o), .null]) (fun _ => (xa m 86 (upd (m.1 86) 0 0))) (fun o ho => ?_) ?_
    · refine vc_wp (T := TT [(148, S148), (209, S209)]) (TTc t148 (TTc t209 TTn)) (fun _ => false) (rt0 := some .long) rfl (ckl_drop 22 c208) rfl ?_
      have ho2 : ¬ (10 : Int32) ≤ nI o := nI_ge (b := 10) ho (by omega)
      have hNo := (hN o ho).2
      have hNk := (hN k hk).2
      simp (disch := omega) only [List.drop, i208, wp_iinc, wpE0, wpE1, wpE2, wpE3, wpE4, wpE5, wpJ, okS, lt4S, popR, litS, Int32.reduceLT, Int32.reduceLE, List.getElem?_cons_zero, List.getElem?_cons_succ, Bool.false_eq_true, ↓reduceIte, Nat.reduceMod, Nat.reduceDiv, Nat.reduceAdd, Nat.reduceSub, Nat.reduceMul, Nat.reduceLeDiff, Nat.reduceEqDiff, Nat.reduceBEq, Int.reduceToNat, Int.reduceAdd, Int32.reduceOfInt, Int64.reduceOfInt, Int32.reduceToNatClampNeg, Int32.reduceOfNat, Bool.or_self, Bool.or_false, Bool.false_or, Bool.true_or, Bool.or_true, true_and, and_true, false_and, and_false, List.set_cons_zero, List.set_cons_succ, List.take_succ_cons, List.take_zero, List.drop_succ_cons, List.drop_zero, List.reverse_cons, List.reverse_nil, List.nil_append, List.cons_append, List.length_cons, List.length_nil, Option.toList_some, Option.toList_none, not_true_eq_false, not_false_eq_true, forall_const, true_implies, false_implies, nrw, TTS, s148, s209, shM, shO, and01, bI_0, bI_and, isRl, cmpS, toLS, toL_le, toL_lt, i2lS, inM, Int64.reduceLE, Int64.reduceLT, xa_1, xa_2, xa_xa, upd_at, updU, linS, nI_add, nI_s2, clN, inN, inLS, Nat.reduceEqDiff, ↓reduceIte, not_true_eq_false, not_false_eq_true, and_true, true_and, and_false, false_and, and_self, or_true, true_or, or_false, false_or, ↓reduceIte, if_true, if_false, eq_self, subS, ho2, hNo, hNk, nI_1, isL, litS, not_true_eq_false, not_false_eq_true, and_true, true_and, and_false, false_and, and_self, or_true, true_or, or_false, false_or, ↓reduceIte, if_true, if_false, eq_self]
      by_cases z0 : isL (fun o => (¬ nI k < nI o ∧ ¬ aB (nI k) n < aB (nI o) n) ∧ (nI o < nI k ∨ aB (nI o) n < aB (nI k) n)) o = 0
      · by_cases z1 : nI k < nI o <;> by_cases z2 : aB (nI k) n < aB (nI o) n <;> simp only [z0, z1, z2, litS, false_implies, true_implies, implies_true, not_true_eq_false, not_false_eq_true, and_true, true_and, and_false, false_and, and_self, or_true, true_or, or_false, false_or, ↓reduceIte, if_true, if_false, eq_self]
      · by_cases z1 : nI k < nI o <;> by_cases z2 : aB (nI k) n < aB (nI o) n <;> by_cases z3 : nI o < nI k <;> by_cases z4 : aB (nI o) n < aB (nI k) n <;> simp only [z0, z1, z2, z3, z4, litS, false_implies, true_implies, implies_true, not_true_eq_false, not_false_eq_true, and_true, true_and, and_false, false_and, and_self, or_true, true_or, or_false, false_or, ↓reduceIte, if_true, if_false, eq_self]
    · refine vc_wp (T := TT [(148, S148), (209, S209)]) (TTc t148 (TTc t209 TTn)) (fun _ => false) (rt0 := some .long) rfl (ckl_drop 22 c208) rfl ?_
      have ho2 : (10 : Int32) ≤ nI 10 := by decide
      simp (disch := omega) only [List.drop, i208, wp_iinc, wpE0, wpE1, wpE2, wpE3, wpE4, wpE5, wpJ, okS, lt4S, popR, litS, Int32.reduceLT, Int32.reduceLE, List.getElem?_cons_zero, List.getElem?_cons_succ, Bool.false_eq_true, ↓reduceIte, Nat.reduceMod, Nat.reduceDiv, Nat.reduceAdd, Nat.reduceSub, Nat.reduceMul, Nat.reduceLeDiff, Nat.reduceEqDiff, Nat.reduceBEq, Int.reduceToNat, Int.reduceAdd, Int32.reduceOfInt, Int64.reduceOfInt, Int32.reduceToNatClampNeg, Int32.reduceOfNat, Bool.or_self, Bool.or_false, Bool.false_or, Bool.true_or, Bool.or_true, true_and, and_true, false_and, and_false, List.set_cons_zero, List.set_cons_succ, List.take_succ_cons, List.take_zero, List.drop_succ_cons, List.drop_zero, List.reverse_cons, List.reverse_nil, List.nil_append, List.cons_append, List.length_cons, List.length_nil, Option.toList_some, Option.toList_none, not_true_eq_false, not_false_eq_true, forall_const, true_implies, false_implies, nrw, TTS, s148, s209, shM, shO, and01, bI_0, bI_and, isRl, cmpS, toLS, toL_le, toL_lt, i2lS, inM, Int64.reduceLE, Int64.reduceLT, xa_1, xa_2, xa_xa, upd_at, updU, linS, nI_add, nI_s2, clN, inN, inLS, Nat.reduceEqDiff, ↓reduceIte, not_true_eq_false, not_false_eq_true, and_true, true_and, and_false, false_and, and_self, or_true, true_or, or_false, false_or, ↓reduceIte, if_true, if_false, eq_self, subS, ho2, nI_1, mAir, not_true_eq_false, not_false_eq_true, and_true, true_and, and_false, false_and, and_self, or_true, true_or, or_false, false_or, ↓reduceIte, if_true, if_false, eq_self]
      by_cases z0 : isL (fun o => (¬ nI k < nI o ∧ ¬ aB (nI k) n < aB (nI o) n) ∧ (nI o < nI k ∨ aB (nI o) n < aB (nI k) n)) 10 = 0
      · simp only [z0, false_implies, true_implies, implies_true, not_true_eq_false, not_false_eq_true, and_true, true_and, and_false, false_and, and_self, or_true, true_or, or_false, false_or, ↓reduceIte, if_true, if_false, eq_self]
      · simp only [z0, false_implies, true_implies, implies_true, not_true_eq_false, not_false_eq_true, and_true, true_and, and_false, false_and, and_self, or_true, true_or, or_false, false_or, ↓reduceIte, if_true, if_false, eq_self]
  · have hk2 : (10 : Int32) ≤ nI 10 := by decide
    refine vc_wp (T := TT [(148, S148), (209, S209)]) (TTc t148 (TTc t209 TTn)) (fun _ => false) (rt0 := some .long) rfl (ckl_drop 15 c208) rfl ?_
    simp (disch := omega) only [List.drop, i208, wp_iinc, wpE0, wpE1, wpE2, wpE3, wpE4, wpE5, wpJ, okS, lt4S, popR, litS, Int32.reduceLT, Int32.reduceLE, List.getElem?_cons_zero, List.getElem?_cons_succ, Bool.false_eq_true, ↓reduceIte, Nat.reduceMod, Nat.reduceDiv, Nat.reduceAdd, Nat.reduceSub, Nat.reduceMul, Nat.reduceLeDiff, Nat.reduceEqDiff, Nat.reduceBEq, Int.reduceToNat, Int.reduceAdd, Int32.reduceOfInt, Int64.reduceOfInt, Int32.reduceToNatClampNeg, Int32.reduceOfNat, Bool.or_self, Bool.or_false, Bool.false_or, Bool.true_or, Bool.or_true, true_and, and_true, false_and, and_false, List.set_cons_zero, List.set_cons_succ, List.take_succ_cons, List.take_zero, List.drop_succ_cons, List.drop_zero, List.reverse_cons, List.reverse_nil, List.nil_append, List.cons_append, List.length_cons, List.length_nil, Option.toList_some, Option.toList_none, not_true_eq_false, not_false_eq_true, forall_const, true_implies, false_implies, nrw, TTS, s148, s209, shM, shO, and01, bI_0, bI_and, isRl, cmpS, toLS, toL_le, toL_lt, i2lS, inM, Int64.reduceLE, Int64.reduceLT, xa_1, xa_2, xa_xa, upd_at, updU, linS, nI_add, nI_s2, clN, inN, inLS, Nat.reduceEqDiff, ↓reduceIte, not_true_eq_false, not_false_eq_true, and_true, true_and, and_false, false_and, and_self, or_true, true_or, or_false, false_or, ↓reduceIte, if_true, if_false, eq_self, hk2, not_true_eq_false, not_false_eq_true, and_true, true_and, and_false, false_and, and_self, or_true, true_or, or_false, false_or, ↓reduceIte, if_true, if_false, eq_self]
    exact h

theorem p106 {G : xG} {m : xM} (hR : REL m) (n : Int32) {Q : xQt} (h : ∀ (rv : Int64) m1, MID G 208 [.ref 86, .int n] (.long rv) m1 → Q (some (.long rv)) m1) : Tri G 106 [.ref 0, .int n] m Q := by
  by_cases n1 : n < 1
  · have n1' : ¬ 1 ≤ n := Int32.not_le.mpr n1
    refine tri_wp (T := TT [(107, S107)]) (ls := [.ref 0, .int n]) (TTc t107 TTn) c106 (by decide +kernel) (rt0 := some .long) rfl rfl (Nat.le_of_ble_eq_true rfl) rfl ?_
    simp only [i106, wp_iinc, wpE0, wpE1, wpE2, wpE3, wpE4, wpE5, wpJ, okS, lt4S, popR, litS, Int32.reduceLT, Int32.reduceLE, List.getElem?_cons_zero, List.getElem?_cons_succ, Bool.false_eq_true, ↓reduceIte, Nat.reduceMod, Nat.reduceDiv, Nat.reduceAdd, Nat.reduceSub, Nat.reduceMul, Nat.reduceLeDiff, Nat.reduceEqDiff, Nat.reduceBEq, Int.reduceToNat, Int.reduceAdd, Int32.reduceOfInt, Int64.reduceOfInt, Int32.reduceToNatClampNeg, Int32.reduceOfNat, Bool.or_self, Bool.or_false, Bool.false_or, Bool.true_or, Bool.or_true, true_and, and_true, false_and, and_false, List.set_cons_zero, List.set_cons_succ, List.take_succ_cons, List.take_zero, List.drop_succ_cons, List.drop_zero, List.reverse_cons, List.reverse_nil, List.nil_append, List.cons_append, List.length_cons, List.length_nil, Option.toList_some, Option.toList_none, not_true_eq_false, not_false_eq_true, forall_const, true_implies, false_implies, nrw, TTS, s107, shO, sh7L, and01, bI_0, bI_and, isCl, isRl, cmpS, toLS, toL_le, toL_lt, i2lS, inM, Int64.reduceLE, Int64.reduceLT, xa_1, xa_2, xa_xa, upd_at, updU, Nat.reduceEqDiff, ↓reduceIte, not_true_eq_false, not_false_eq_true, and_true, true_and, and_false, false_and, and_self, or_true, true_or, or_false, false_or, ↓reduceIte, if_true, if_false, eq_self, n1, n1']
    refine h _ _ (fun Q' hq => ?_)
    refine tri_wp (T := TT [(148, S148)]) (ls := [.ref 86, .int n, .null, .null, .null, .null, .null]) (TTc t148 TTn) c208 (by decide +kernel) (rt0 := some .long) rfl rfl (Nat.le_of_ble_eq_true rfl) rfl ?_
    simp only [i208, wp_iinc, wpE0, wpE1, wpE2, wpE3, wpE4, wpE5, wpJ, okS, lt4S, popR, litS, Int32.reduceLT, Int32.reduceLE, List.getElem?_cons_zero, List.getElem?_cons_succ, Bool.false_eq_true, ↓reduceIte, Nat.reduceMod, Nat.reduceDiv, Nat.reduceAdd, Nat.reduceSub, Nat.reduceMul, Nat.reduceLeDiff, Nat.reduceEqDiff, Nat.reduceBEq, Int.reduceToNat, Int.reduceAdd, Int32.reduceOfInt, Int64.reduceOfInt, Int32.reduceToNatClampNeg, Int32.reduceOfNat, Bool.or_self, Bool.or_false, Bool.false_or, Bool.true_or, Bool.or_true, true_and, and_true, false_and, and_false, List.set_cons_zero, List.set_cons_succ, List.take_succ_cons, List.take_zero, List.drop_succ_cons, List.drop_zero, List.reverse_cons, List.reverse_nil, List.nil_append, List.cons_append, List.length_cons, List.length_nil, Option.toList_some, Option.toList_none, not_true_eq_false, not_false_eq_true, forall_const, true_implies, false_implies, nrw, TTS, s148, shM, shO, and01, bI_0, bI_and, isRl, cmpS, toLS, toL_le, toL_lt, i2lS, inM, Int64.reduceLE, Int64.reduceLT, xa_1, xa_2, xa_xa, upd_at, updU, linS, nI_add, nI_s2, clN, inN, inLS, Nat.reduceEqDiff, ↓reduceIte, not_true_eq_false, not_false_eq_true, and_true, true_and, and_false, false_and, and_self, or_true, true_or, or_false, false_or, ↓reduceIte, if_true, if_false, eq_self, n1, n1']
    exact hq _ (REL_thr hR 0)
  have n1' : 1 ≤ n := Int32.not_lt.mp n1
  by_cases n2 : ¬ (n ≤ 4)
  · refine tri_wp (T := TT [(107, S107)]) (ls := [.ref 0, .int n]) (TTc t107 TTn) c106 (by decide +kernel) (rt0 := some .long) rfl rfl (Nat.le_of_ble_eq_true rfl) rfl ?_
    simp only [i106, wp_iinc, wpE0, wpE1, wpE2, wpE3, wpE4, wpE5, wpJ, okS, lt4S, popR, litS, Int32.reduceLT, Int32.reduceLE, List.getElem?_cons_zero, List.getElem?_cons_succ, Bool.false_eq_true, ↓reduceIte, Nat.reduceMod, Nat.reduceDiv, Nat.reduceAdd, Nat.reduceSub, Nat.reduceMul, Nat.reduceLeDiff, Nat.reduceEqDiff, Nat.reduceBEq, Int.reduceToNat, Int.reduceAdd, Int32.reduceOfInt, Int64.reduceOfInt, Int32.reduceToNatClampNeg, Int32.reduceOfNat, Bool.or_self, Bool.or_false, Bool.false_or, Bool.true_or, Bool.or_true, true_and, and_true, false_and, and_false, List.set_cons_zero, List.set_cons_succ, List.take_succ_cons, List.take_zero, List.drop_succ_cons, List.drop_zero, List.reverse_cons, List.reverse_nil, List.nil_append, List.cons_append, List.length_cons, List.length_nil, Option.toList_some, Option.toList_none, not_true_eq_false, not_false_eq_true, forall_const, true_implies, false_implies, nrw, TTS, s107, shO, sh7L, and01, bI_0, bI_and, isCl, isRl, cmpS, toLS, toL_le, toL_lt, i2lS, inM, Int64.reduceLE, Int64.reduceLT, xa_1, xa_2, xa_xa, upd_at, updU, Nat.reduceEqDiff, ↓reduceIte, not_true_eq_false, not_false_eq_true, and_true, true_and, and_false, false_and, and_self, or_true, true_or, or_false, false_or, ↓reduceIte, if_true, if_false, eq_self, n1, n1', n2]
    refine h _ _ (fun Q' hq => ?_)
    refine tri_wp (T := TT [(148, S148)]) (ls := [.ref 86, .int n, .null, .null, .null, .null, .null]) (TTc t148 TTn) c208 (by decide +kernel) (rt0 := some .long) rfl rfl (Nat.le_of_ble_eq_true rfl) rfl ?_
    simp only [i208, wp_iinc, wpE0, wpE1, wpE2, wpE3, wpE4, wpE5, wpJ, okS, lt4S, popR, litS, Int32.reduceLT, Int32.reduceLE, List.getElem?_cons_zero, List.getElem?_cons_succ, Bool.false_eq_true, ↓reduceIte, Nat.reduceMod, Nat.reduceDiv, Nat.reduceAdd, Nat.reduceSub, Nat.reduceMul, Nat.reduceLeDiff, Nat.reduceEqDiff, Nat.reduceBEq, Int.reduceToNat, Int.reduceAdd, Int32.reduceOfInt, Int64.reduceOfInt, Int32.reduceToNatClampNeg, Int32.reduceOfNat, Bool.or_self, Bool.or_false, Bool.false_or, Bool.true_or, Bool.or_true, true_and, and_true, false_and, and_false, List.set_cons_zero, List.set_cons_succ, List.take_succ_cons, List.take_zero, List.drop_succ_cons, List.drop_zero, List.reverse_cons, List.reverse_nil, List.nil_append, List.cons_append, List.length_cons, List.length_nil, Option.toList_some, Option.toList_none, not_true_eq_false, not_false_eq_true, forall_const, true_implies, false_implies, nrw, TTS, s148, shM, shO, and01, bI_0, bI_and, isRl, cmpS, toLS, toL_le, toL_lt, i2lS, inM, Int64.reduceLE, Int64.reduceLT, xa_1, xa_2, xa_xa, upd_at, updU, linS, nI_add, nI_s2, clN, inN, inLS, Nat.reduceEqDiff, ↓reduceIte, not_true_eq_false, not_false_eq_true, and_true, true_and, and_false, false_and, and_self, or_true, true_or, or_false, false_or, ↓reduceIte, if_true, if_false, eq_self, n1, n1', n2]
    exact hq _ (REL_thr hR 0)
  have n2 : n ≤ 4 := Classical.not_not.mp n2
  have hN : aN n ∧ cAir n 10 = mAir n 10 := by
    have h1 := Int32.le_iff_toInt_le.mp n1'
    have h2 := Int32.le_iff_toInt_le.mp n2
    have h1 : 1 ≤ n.toInt := h1
    have h2 : n.toInt ≤ 4 := h2
    have h3 : n = 1 ∨ n = 2 ∨ n = 3 ∨ n = 4 := by
      simp only [← Int32.toInt_inj]
      show n.toInt = 1 ∨ n.toInt = 2 ∨ n.toInt = 3 ∨ n.toInt = 4
      omega
    rcases h3 with rfl | rfl | rfl | rfl
    · exact ⟨aN_1.1, air_eq.1⟩
    · exact ⟨aN_1.2.1, air_eq.2.1⟩
    · exact ⟨aN_1.2.2.1, air_eq.2.2.1⟩
    · exact ⟨aN_1.2.2.2, air_eq.2.2.2⟩
  refine tri_wp (T := TT [(107, S107)]) (ls := [.ref 0, .int n]) (TTc t107 TTn) c106 (by decide +kernel) (rt0 := some .long) rfl rfl (Nat.le_of_ble_eq_true rfl) rfl ?_
  simp only [i106, wp_iinc, wpE0, wpE1, wpE2, wpE3, wpE4, wpE5, wpJ, okS, lt4S, popR, litS, Int32.reduceLT, Int32.reduceLE, List.getElem?_cons_zero, List.getElem?_cons_succ, Bool.false_eq_true, ↓reduceIte, Nat.reduceMod, Nat.reduceDiv, Nat.reduceAdd, Nat.reduceSub, Nat.reduceMul, Nat.reduceLeDiff, Nat.reduceEqDiff, Nat.reduceBEq, Int.reduceToNat, Int.reduceAdd, Int32.reduceOfInt, Int64.reduceOfInt, Int32.reduceToNatClampNeg, Int32.reduceOfNat, Bool.or_self, Bool.or_false, Bool.false_or, Bool.true_or, Bool.or_true, true_and, and_true, false_and, and_false, List.set_cons_zero, List.set_cons_succ, List.take_succ_cons, List.take_zero, List.drop_succ_cons, List.drop_zero, List.reverse_cons, List.reverse_nil, List.nil_append, List.cons_append, List.length_cons, List.length_nil, Option.toList_some, Option.toList_none, not_true_eq_false, not_false_eq_true, forall_const, true_implies, false_implies, nrw, TTS, s107, shO, sh7L, and01, bI_0, bI_and, isCl, isRl, cmpS, toLS, toL_le, toL_lt, i2lS, inM, Int64.reduceLE, Int64.reduceLT, xa_1, xa_2, xa_xa, upd_at, updU, Nat.reduceEqDiff, ↓reduceIte, not_true_eq_false, not_false_eq_true, and_true, true_and, and_false, false_and, and_self, or_true, true_or, or_false, false_or, ↓reduceIte, if_true, if_false, eq_self, hN.1, n1, n1', n2]
  rw [hN.2]
  exact h _ _ (fun Q' hq => m208 n1' n2 hN.1 (hq _ (REL_thr hR 0)))

