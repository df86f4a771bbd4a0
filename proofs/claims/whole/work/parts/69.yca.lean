/-! the tape's tokens -/
abbrev Tp : Type := (Nat → Nat) × Nat
abbrev tsp (T : Tp) (i : Nat) : Prop := T.1 i = 32 ∨ T.1 i = 10
abbrev tle (T : Tp) (i : Nat) : Prop := 97 ≤ T.1 i ∧ T.1 i ≤ 122
abbrev tfg (T : Tp) (i : Nat) : Prop := 48 ≤ T.1 i ∧ T.1 i ≤ 57
def tS (T : Tp) (a : Nat) : Nat := a + fi (fun i => ¬ tsp T (a + i)) (T.2 - a)
def tL (T : Tp) (s : Nat) : Nat := s + fi (fun i => ¬ tle T (s + i)) (T.2 - s)
def tF (T : Tp) (s : Nat) : Nat := s + fi (fun i => ¬ tfg T (s + i)) (T.2 - s)
def tKE (T : Tp) (a : Nat) : Nat × Nat := if T.2 ≤ tS T a then (0, tS T a) else if tle T (tS T a) then (1, tL T (tS T a)) else if tfg T (tS T a) then (if 3 < tF T (tS T a) - tS T a then 4 else 2, tF T (tS T a)) else (if T.1 (tS T a) = 59 then 3 else 4, tS T a + 1)
def tK (T : Tp) (a : Nat) : Nat := (tKE T a).1
def tE (T : Tp) (a : Nat) : Nat := (tKE T a).2
def vl (T : Tp) (s : Nat) : Nat → Nat
  | 0 => 0
  | i + 1 => vl T s i * 10 + (T.1 (s + i) - 48)
def tV (T : Tp) (a : Nat) : Nat := vl T (tS T a) (tE T a - tS T a)
def wdc (q i : Nat) : Nat := match q with
  | 0 => [115, 101, 97].getD i 0
  | 1 => [109, 117, 100].getD i 0
  | 2 => [98, 111, 97, 116].getD i 0
  | _ => [104, 97, 110, 100].getD i 0
def wln (q : Nat) : Nat := if q < 2 then 3 else 4
abbrev tW (T : Tp) (a q : Nat) : Prop := tK T a = 1 ∧ tE T a - tS T a = wln q ∧ ∀ i, i < wln q → T.1 (tS T a + i) = wdc q i
theorem tS_b {T : Tp} {a : Nat} (h : a ≤ T.2) : a ≤ tS T a ∧ tS T a ≤ T.2 := by
  have := fi_le (fun i => ¬ tsp T (a + i)) (T.2 - a)
  unfold tS
  omega
theorem tL_b {T : Tp} {s : Nat} (h : s ≤ T.2) : s ≤ tL T s ∧ tL T s ≤ T.2 := by
  have := fi_le (fun i => ¬ tle T (s + i)) (T.2 - s)
  unfold tL
  omega
theorem tF_b {T : Tp} {s : Nat} (h : s ≤ T.2) : s ≤ tF T s ∧ tF T s ≤ T.2 := by
  have := fi_le (fun i => ¬ tfg T (s + i)) (T.2 - s)
  unfold tF
  omega
theorem tL_in {T : Tp} {s i : Nat} (h : s + i < tL T s) : tle T (s + i) := by
  unfold tL at h
  rcases fi_spec (fun i => ¬ tle T (s + i)) (T.2 - s) with ⟨q, y⟩ | ⟨_, _, y⟩
  · exact Classical.not_not.mp (y i (by omega))
  · exact Classical.not_not.mp (y i (by omega))
theorem tF_in {T : Tp} {s i : Nat} (h : s + i < tF T s) : tfg T (s + i) := by
  unfold tF at h
  rcases fi_spec (fun i => ¬ tfg T (s + i)) (T.2 - s) with ⟨q, y⟩ | ⟨_, _, y⟩
  · exact Classical.not_not.mp (y i (by omega))
  · exact Classical.not_not.mp (y i (by omega))
theorem tK_0 {T : Tp} {a : Nat} (h : T.2 ≤ tS T a) : tK T a = 0 ∧ tE T a = tS T a := by
  unfold tK tE tKE
  rw [if_pos h]; exact ⟨rfl, rfl⟩
theorem tK_1 {T : Tp} {a : Nat} (h : ¬ T.2 ≤ tS T a) (h1 : tle T (tS T a)) : tK T a = 1 ∧ tE T a = tL T (tS T a) := by
  unfold tK tE tKE
  rw [if_neg h, if_pos h1]; exact ⟨rfl, rfl⟩
theorem tK_2 {T : Tp} {a : Nat} (h : ¬ T.2 ≤ tS T a) (h1 : ¬ tle T (tS T a)) (h2 : tfg T (tS T a)) : tK T a = (if 3 < tF T (tS T a) - tS T a then 4 else 2) ∧ tE T a = tF T (tS T a) := by
  unfold tK tE tKE
  rw [if_neg h, if_neg h1, if_pos h2]; exact ⟨rfl, rfl⟩
theorem tK_3 {T : Tp} {a : Nat} (h : ¬ T.2 ≤ tS T a) (h1 : ¬ tle T (tS T a)) (h2 : ¬ tfg T (tS T a)) : tK T a = (if T.1 (tS T a) = 59 then 3 else 4) ∧ tE T a = tS T a + 1 := by
  unfold tK tE tKE
  rw [if_neg h, if_neg h1, if_neg h2]; exact ⟨rfl, rfl⟩
theorem tE_b {T : Tp} {a : Nat} (h : a ≤ T.2) : tS T a ≤ tE T a ∧ tE T a ≤ T.2 := by
  obtain ⟨s1, s2⟩ := tS_b h
  by_cases h0 : T.2 ≤ tS T a
  · rw [(tK_0 h0).2]; omega
  · by_cases h1 : tle T (tS T a)
    · rw [(tK_1 h0 h1).2]; exact tL_b s2
    · by_cases h2 : tfg T (tS T a)
      · rw [(tK_2 h0 h1 h2).2]; exact tF_b s2
      · rw [(tK_3 h0 h1 h2).2]; omega
theorem tK_4 (T : Tp) (a : Nat) : tK T a ≤ 4 := by
  by_cases h0 : T.2 ≤ tS T a
  · rw [(tK_0 h0).1]; omega
  · by_cases h1 : tle T (tS T a)
    · rw [(tK_1 h0 h1).1]; omega
    · by_cases h2 : tfg T (tS T a)
      · rw [(tK_2 h0 h1 h2).1]; split <;> omega
      · rw [(tK_3 h0 h1 h2).1]; split <;> omega
theorem tK_n {T : Tp} {a : Nat} (h : tK T a = 1) : ¬ T.2 ≤ tS T a ∧ tE T a = tL T (tS T a) := by
  by_cases h0 : T.2 ≤ tS T a
  · rw [(tK_0 h0).1] at h; omega
  · by_cases h1 : tle T (tS T a)
    · exact ⟨h0, (tK_1 h0 h1).2⟩
    · by_cases h2 : tfg T (tS T a)
      · rw [(tK_2 h0 h1 h2).1] at h; split at h <;> omega
      · rw [(tK_3 h0 h1 h2).1] at h; split at h <;> omega
theorem tK_f {T : Tp} {a : Nat} (h : tK T a = 2) : ¬ T.2 ≤ tS T a ∧ tE T a = tF T (tS T a) ∧ tE T a - tS T a ≤ 3 := by
  by_cases h0 : T.2 ≤ tS T a
  · rw [(tK_0 h0).1] at h; omega
  · by_cases h1 : tle T (tS T a)
    · rw [(tK_1 h0 h1).1] at h; omega
    · by_cases h2 : tfg T (tS T a)
      · obtain ⟨e1, e2⟩ := tK_2 h0 h1 h2
        rw [e1] at h
        split at h
        · omega
        · exact ⟨h0, e2, by rw [e2]; omega⟩
      · rw [(tK_3 h0 h1 h2).1] at h; split at h <;> omega
theorem tV_b {T : Tp} {a : Nat} (h : tK T a = 2) : tV T a ≤ 999 := by
  obtain ⟨_, e, l⟩ := tK_f h
  have key : ∀ n, n ≤ tE T a - tS T a → vl T (tS T a) n + 1 ≤ 10 ^ n := by
    intro n
    induction n with
    | zero => intro _; exact Nat.le_refl _
    | succ n ih =>
      intro hn
      have h1 := ih (by omega)
      have h2 := tF_in (T := T) (s := tS T a) (i := n) (by omega)
      show vl T (tS T a) n * 10 + (T.1 (tS T a + n) - 48) + 1 ≤ 10 ^ (n + 1)
      rw [Nat.pow_succ]
      omega
  have h1 := key _ (Nat.le_refl _)
  have h2 : 10 ^ (tE T a - tS T a) ≤ 10 ^ 3 := Nat.pow_le_pow_right (by omega) l
  unfold tV
  omega
/-- the class's tape -/
def tpC (T : Tp) (m : xM) : Prop := m.1 5 1 = nI T.2 ∧ T.2 ≤ 400 ∧ ∀ i, i < T.2 → (m.1 6 i = nI (T.1 i) ∧ T.1 i < 128) ∨ (m.1 6 i < 0 ∧ 128 ≤ T.1 i)
theorem neg_ne {x : Int32} (h : x < 0) {c : Nat} (hc : c < 2 ^ 31) : ¬ x = nI c ∧ ¬ nI c ≤ x ∧ x < nI c := by
  have h1 := nI_toInt hc
  rw [Int32.lt_iff_toInt_lt] at h
  have h : x.toInt < 0 := h
  refine ⟨fun y => ?_, ?_, ?_⟩
  · rw [y, h1] at h; omega
  · rw [Int32.le_iff_toInt_le, h1]; omega
  · rw [Int32.lt_iff_toInt_lt, h1]; omega
theorem tp_eq {T : Tp} {m : xM} (h : tpC T m) {i : Nat} (hi : i < T.2) (c : Nat) (hc : c < 128) : (m.1 6 i = nI c) = (T.1 i = c) := by
  rcases h.2.2 i hi with ⟨e, l⟩ | ⟨e, l⟩
  · rw [e]; exact propext (nI_eq (by omega) (by omega))
  · exact propext ⟨fun y => absurd y (neg_ne e (by omega)).1, fun y => by omega⟩
theorem tp_lo {T : Tp} {m : xM} (h : tpC T m) {i : Nat} (hi : i < T.2) (c d : Nat) (hc : c < 128) (hd : d < 128) : (c ≤ T.1 i ∧ T.1 i ≤ d) = (nI c ≤ m.1 6 i ∧ m.1 6 i ≤ nI d) := by
  rcases h.2.2 i hi with ⟨e, l⟩ | ⟨e, l⟩
  · rw [e, nI_leI (by omega) (by omega), nI_leI (by omega) (by omega)]
  · exact propext ⟨fun y => by omega, fun y => absurd y.1 (neg_ne e (by omega)).2.1⟩

theorem b28 {G : xG} {m : xM} {Q : xQt} {x : Int32} (hq : Q (some (.int (bI (nI 97 ≤ x ∧ x ≤ nI 122)))) m) : Tri G 28 [.int x] m Q := by
  by_cases c1 : nI 97 ≤ x
  · have c1' : ¬ x < 97 := Int32.not_lt.mpr c1
    have c1'' : (97 : Int32) ≤ x := c1
    by_cases c2 : x ≤ nI 122
    · have c2' : x ≤ 122 := c2
      have c2'' : ¬ 122 < x := Int32.not_lt.mpr c2
      rw [bI_t ⟨c1, c2⟩] at hq
      refine tri_wp (T := TT []) (ls := [.int x]) TTn c28 (by decide +kernel) (rt0 := some .boolean) rfl rfl (Nat.le_of_ble_eq_true rfl) rfl ?_
      simp only [i28, wp_iinc, wpE0, wpE1, wpE2, wpE3, wpE4, wpE5, wpJ, okS, lt4S, popR, litS, Int32.reduceLT, Int32.reduceLE, List.getElem?_cons_zero, List.getElem?_cons_succ, Bool.false_eq_true, ↓reduceIte, Nat.reduceMod, Nat.reduceDiv, Nat.reduceAdd, Nat.reduceSub, Nat.reduceMul, Nat.reduceLeDiff, Nat.reduceEqDiff, Nat.reduceBEq, Int.reduceToNat, Int.reduceAdd, Int32.reduceOfInt, Int64.reduceOfInt, Int32.reduceToNatClampNeg, Int32.reduceOfNat, Bool.or_self, Bool.or_false, Bool.false_or, Bool.true_or, Bool.or_true, true_and, and_true, false_and, and_false, List.set_cons_zero, List.set_cons_succ, List.take_succ_cons, List.take_zero, List.drop_succ_cons, List.drop_zero, List.reverse_cons, List.reverse_nil, List.nil_append, List.cons_append, List.length_cons, List.length_nil, Option.toList_some, Option.toList_none, not_true_eq_false, not_false_eq_true, forall_const, true_implies, false_implies, nrw, TTS, and01, c1', c1'', c2', c2'', not_true_eq_false, not_false_eq_true, and_true, true_and, and_false, false_and, and_self, or_true, true_or, or_false, false_or, ↓reduceIte, if_true, if_false, eq_self]
      exact hq
    · have c2' : ¬ x ≤ 122 := c2
      have c2'' : 122 < x := Int32.not_le.mp c2
      rw [bI_f (fun y => c2 y.2)] at hq
      refine tri_wp (T := TT []) (ls := [.int x]) TTn c28 (by decide +kernel) (rt0 := some .boolean) rfl rfl (Nat.le_of_ble_eq_true rfl) rfl ?_
      simp only [i28, wp_iinc, wpE0, wpE1, wpE2, wpE3, wpE4, wpE5, wpJ, okS, lt4S, popR, litS, Int32.reduceLT, Int32.reduceLE, List.getElem?_cons_zero, List.getElem?_cons_succ, Bool.false_eq_true, ↓reduceIte, Nat.reduceMod, Nat.reduceDiv, Nat.reduceAdd, Nat.reduceSub, Nat.reduceMul, Nat.reduceLeDiff, Nat.reduceEqDiff, Nat.reduceBEq, Int.reduceToNat, Int.reduceAdd, Int32.reduceOfInt, Int64.reduceOfInt, Int32.reduceToNatClampNeg, Int32.reduceOfNat, Bool.or_self, Bool.or_false, Bool.false_or, Bool.true_or, Bool.or_true, true_and, and_true, false_and, and_false, List.set_cons_zero, List.set_cons_succ, List.take_succ_cons, List.take_zero, List.drop_succ_cons, List.drop_zero, List.reverse_cons, List.reverse_nil, List.nil_append, List.cons_append, List.length_cons, List.length_nil, Option.toList_some, Option.toList_none, not_true_eq_false, not_false_eq_true, forall_const, true_implies, false_implies, nrw, TTS, and01, c1', c1'', c2', c2'', not_true_eq_false, not_false_eq_true, and_true, true_and, and_false, false_and, and_self, or_true, true_or, or_false, false_or, ↓reduceIte, if_true, if_false, eq_self]
      exact hq
  · have c1' : x < 97 := Int32.not_le.mp c1
    have c1'' : ¬ (97 : Int32) ≤ x := c1
    rw [bI_f (fun y => c1 y.1)] at hq
    refine tri_wp (T := TT []) (ls := [.int x]) TTn c28 (by decide +kernel) (rt0 := some .boolean) rfl rfl (Nat.le_of_ble_eq_true rfl) rfl ?_
    simp only [i28, wp_iinc, wpE0, wpE1, wpE2, wpE3, wpE4, wpE5, wpJ, okS, lt4S, popR, litS, Int32.reduceLT, Int32.reduceLE, List.getElem?_cons_zero, List.getElem?_cons_succ, Bool.false_eq_true, ↓reduceIte, Nat.reduceMod, Nat.reduceDiv, Nat.reduceAdd, Nat.reduceSub, Nat.reduceMul, Nat.reduceLeDiff, Nat.reduceEqDiff, Nat.reduceBEq, Int.reduceToNat, Int.reduceAdd, Int32.reduceOfInt, Int64.reduceOfInt, Int32.reduceToNatClampNeg, Int32.reduceOfNat, Bool.or_self, Bool.or_false, Bool.false_or, Bool.true_or, Bool.or_true, true_and, and_true, false_and, and_false, List.set_cons_zero, List.set_cons_succ, List.take_succ_cons, List.take_zero, List.drop_succ_cons, List.drop_zero, List.reverse_cons, List.reverse_nil, List.nil_append, List.cons_append, List.length_cons, List.length_nil, Option.toList_some, Option.toList_none, not_true_eq_false, not_false_eq_true, forall_const, true_implies, false_implies, nrw, TTS, and01, c1', c1'', not_true_eq_false, not_false_eq_true, and_true, true_and, and_false, false_and, and_self, or_true, true_or, or_false, false_or, ↓reduceIte, if_true, if_false, eq_self]
    exact hq

theorem b30 {G : xG} {m : xM} {Q : xQt} {x : Int32} (hq : Q (some (.int (bI (nI 48 ≤ x ∧ x ≤ nI 57)))) m) : Tri G 30 [.int x] m Q := by
  by_cases c1 : nI 48 ≤ x
  · have c1' : ¬ x < 48 := Int32.not_lt.mpr c1
    have c1'' : (48 : Int32) ≤ x := c1
    by_cases c2 : x ≤ nI 57
    · have c2' : x ≤ 57 := c2
      have c2'' : ¬ 57 < x := Int32.not_lt.mpr c2
      rw [bI_t ⟨c1, c2⟩] at hq
      refine tri_wp (T := TT []) (ls := [.int x]) TTn c30 (by decide +kernel) (rt0 := some .boolean) rfl rfl (Nat.le_of_ble_eq_true rfl) rfl ?_
      simp only [i30, wp_iinc, wpE0, wpE1, wpE2, wpE3, wpE4, wpE5, wpJ, okS, lt4S, popR, litS, Int32.reduceLT, Int32.reduceLE, List.getElem?_cons_zero, List.getElem?_cons_succ, Bool.false_eq_true, ↓reduceIte, Nat.reduceMod, Nat.reduceDiv, Nat.reduceAdd, Nat.reduceSub, Nat.reduceMul, Nat.reduceLeDiff, Nat.reduceEqDiff, Nat.reduceBEq, Int.reduceToNat, Int.reduceAdd, Int32.reduceOfInt, Int64.reduceOfInt, Int32.reduceToNatClampNeg, Int32.reduceOfNat, Bool.or_self, Bool.or_false, Bool.false_or, Bool.true_or, Bool.or_true, true_and, and_true, false_and, and_false, List.set_cons_zero, List.set_cons_succ, List.take_succ_cons, List.take_zero, List.drop_succ_cons, List.drop_zero, List.reverse_cons, List.reverse_nil, List.nil_append, List.cons_append, List.length_cons, List.length_nil, Option.toList_some, Option.toList_none, not_true_eq_false, not_false_eq_true, forall_const, true_implies, false_implies, nrw, TTS, and01, c1', c1'', c2', c2'', not_true_eq_false, not_false_eq_true, and_true, true_and, and_false, false_and, and_self, or_true, true_or, or_false, false_or, ↓reduceIte, if_true, if_false, eq_self]
      exact hq
    · have c2' : ¬ x ≤ 57 := c2
      have c2'' : 57 < x := Int32.not_le.mp c2
      rw [bI_f (fun y => c2 y.2)] at hq
      refine tri_wp (T := TT []) (ls := [.int x]) TTn c30 (by decide +kernel) (rt0 := some .boolean) rfl rfl (Nat.le_of_ble_eq_true rfl) rfl ?_
      simp only [i30, wp_iinc, wpE0, wpE1, wpE2, wpE3, wpE4, wpE5, wpJ, okS, lt4S, popR, litS, Int32.reduceLT, Int32.reduceLE, List.getElem?_cons_zero, List.getElem?_cons_succ, Bool.false_eq_true, ↓reduceIte, Nat.reduceMod, Nat.reduceDiv, Nat.reduceAdd, Nat.reduceSub, Nat.reduceMul, Nat.reduceLeDiff, Nat.reduceEqDiff, Nat.reduceBEq, Int.reduceToNat, Int.reduceAdd, Int32.reduceOfInt, Int64.reduceOfInt, Int32.reduceToNatClampNeg, Int32.reduceOfNat, Bool.or_self, Bool.or_false, Bool.false_or, Bool.true_or, Bool.or_true, true_and, and_true, false_and, and_false, List.set_cons_zero, List.set_cons_succ, List.take_succ_cons, List.take_zero, List.drop_succ_cons, List.drop_zero, List.reverse_cons, List.reverse_nil, List.nil_append, List.cons_append, List.length_cons, List.length_nil, Option.toList_some, Option.toList_none, not_true_eq_false, not_false_eq_true, forall_const, true_implies, false_implies, nrw, TTS, and01, c1', c1'', c2', c2'', not_true_eq_false, not_false_eq_true, and_true, true_and, and_false, false_and, and_self, or_true, true_or, or_false, false_or, ↓reduceIte, if_true, if_false, eq_self]
      exact hq
  · have c1' : x < 48 := Int32.not_le.mp c1
    have c1'' : ¬ (48 : Int32) ≤ x := c1
    rw [bI_f (fun y => c1 y.1)] at hq
    refine tri_wp (T := TT []) (ls := [.int x]) TTn c30 (by decide +kernel) (rt0 := some .boolean) rfl rfl (Nat.le_of_ble_eq_true rfl) rfl ?_
    simp only [i30, wp_iinc, wpE0, wpE1, wpE2, wpE3, wpE4, wpE5, wpJ, okS, lt4S, popR, litS, Int32.reduceLT, Int32.reduceLE, List.getElem?_cons_zero, List.getElem?_cons_succ, Bool.false_eq_true, ↓reduceIte, Nat.reduceMod, Nat.reduceDiv, Nat.reduceAdd, Nat.reduceSub, Nat.reduceMul, Nat.reduceLeDiff, Nat.reduceEqDiff, Nat.reduceBEq, Int.reduceToNat, Int.reduceAdd, Int32.reduceOfInt, Int64.reduceOfInt, Int32.reduceToNatClampNeg, Int32.reduceOfNat, Bool.or_self, Bool.or_false, Bool.false_or, Bool.true_or, Bool.or_true, true_and, and_true, false_and, and_false, List.set_cons_zero, List.set_cons_succ, List.take_succ_cons, List.take_zero, List.drop_succ_cons, List.drop_zero, List.reverse_cons, List.reverse_nil, List.nil_append, List.cons_append, List.length_cons, List.length_nil, Option.toList_some, Option.toList_none, not_true_eq_false, not_false_eq_true, forall_const, true_implies, false_implies, nrw, TTS, and01, c1', c1'', not_true_eq_false, not_false_eq_true, and_true, true_and, and_false, false_and, and_self, or_true, true_or, or_false, false_or, ↓reduceIte, if_true, if_false, eq_self]
    exact hq

theorem b157 {G : xG} {m : xM} {Q : xQt} {x : Int32} (hq : Q (some (.int (bI (nI 97 ≤ x ∧ x ≤ nI 122)))) m) : Tri G 157 [.int x] m Q := by
  by_cases c1 : nI 97 ≤ x
  · have c1' : ¬ x < 97 := Int32.not_lt.mpr c1
    have c1'' : (97 : Int32) ≤ x := c1
    by_cases c2 : x ≤ nI 122
    · have c2' : x ≤ 122 := c2
      have c2'' : ¬ 122 < x := Int32.not_lt.mpr c2
      rw [bI_t ⟨c1, c2⟩] at hq
      refine tri_wp (T := TT []) (ls := [.int x]) TTn c157 (by decide +kernel) (rt0 := some .boolean) rfl rfl (Nat.le_of_ble_eq_true rfl) rfl ?_
      simp only [i157, wp_iinc, wpE0, wpE1, wpE2, wpE3, wpE4, wpE5, wpJ, okS, lt4S, popR, litS, Int32.reduceLT, Int32.reduceLE, List.getElem?_cons_zero, List.getElem?_cons_succ, Bool.false_eq_true, ↓reduceIte, Nat.reduceMod, Nat.reduceDiv, Nat.reduceAdd, Nat.reduceSub, Nat.reduceMul, Nat.reduceLeDiff, Nat.reduceEqDiff, Nat.reduceBEq, Int.reduceToNat, Int.reduceAdd, Int32.reduceOfInt, Int64.reduceOfInt, Int32.reduceToNatClampNeg, Int32.reduceOfNat, Bool.or_self, Bool.or_false, Bool.false_or, Bool.true_or, Bool.or_true, true_and, and_true, false_and, and_false, List.set_cons_zero, List.set_cons_succ, List.take_succ_cons, List.take_zero, List.drop_succ_cons, List.drop_zero, List.reverse_cons, List.reverse_nil, List.nil_append, List.cons_append, List.length_cons, List.length_nil, Option.toList_some, Option.toList_none, not_true_eq_false, not_false_eq_true, forall_const, true_implies, false_implies, nrw, TTS, and01, c1', c1'', c2', c2'', not_true_eq_false, not_false_eq_true, and_true, true_and, and_false, false_and, and_self, or_true, true_or, or_false, false_or, ↓reduceIte, if_true, if_false, eq_self]
      exact hq
    · have c2' : ¬ x ≤ 122 := c2
      have c2'' : 122 < x := Int32.not_le.mp c2
      rw [bI_f (fun y => c2 y.2)] at hq
      refine tri_wp (T := TT []) (ls := [.int x]) TTn c157 (by decide +kernel) (rt0 := some .boolean) rfl rfl (Nat.le_of_ble_eq_true rfl) rfl ?_
      simp only [i157, wp_iinc, wpE0, wpE1, wpE2, wpE3, wpE4, wpE5, wpJ, okS, lt4S, popR, litS, Int32.reduceLT, Int32.reduceLE, List.getElem?_cons_zero, List.getElem?_cons_succ, Bool.false_eq_true, ↓reduceIte, Nat.reduceMod, Nat.reduceDiv, Nat.reduceAdd, Nat.reduceSub, Nat.reduceMul, Nat.reduceLeDiff, Nat.reduceEqDiff, Nat.reduceBEq, Int.reduceToNat, Int.reduceAdd, Int32.reduceOfInt, Int64.reduceOfInt, Int32.reduceToNatClampNeg, Int32.reduceOfNat, Bool.or_self, Bool.or_false, Bool.false_or, Bool.true_or, Bool.or_true, true_and, and_true, false_and, and_false, List.set_cons_zero, List.set_cons_succ, List.take_succ_cons, List.take_zero, List.drop_succ_cons, List.drop_zero, List.reverse_cons, List.reverse_nil, List.nil_append, List.cons_append, List.length_cons, List.length_nil, Option.toList_some, Option.toList_none, not_true_eq_false, not_false_eq_true, forall_const, true_implies, false_implies, nrw, TTS, and01, c1', c1'', c2', c2'', not_true_eq_false, not_false_eq_true, and_true, true_and, and_false, false_and, and_self, or_true, true_or, or_false, false_or, ↓reduceIte, if_true, if_false, eq_self]
      exact hq
  · have c1' : x < 97 := Int32.not_le.mp c1
    have c1'' : ¬ (97 : Int32) ≤ x := c1
    rw [bI_f (fun y => c1 y.1)] at hq
    refine tri_wp (T := TT []) (ls := [.int x]) TTn c157 (by decide +kernel) (rt0 := some .boolean) rfl rfl (Nat.le_of_ble_eq_true rfl) rfl ?_
    simp only [i157, wp_iinc, wpE0, wpE1, wpE2, wpE3, wpE4, wpE5, wpJ, okS, lt4S, popR, litS, Int32.reduceLT, Int32.reduceLE, List.getElem?_cons_zero, List.getElem?_cons_succ, Bool.false_eq_true, ↓reduceIte, Nat.reduceMod, Nat.reduceDiv, Nat.reduceAdd, Nat.reduceSub, Nat.reduceMul, Nat.reduceLeDiff, Nat.reduceEqDiff, Nat.reduceBEq, Int.reduceToNat, Int.reduceAdd, Int32.reduceOfInt, Int64.reduceOfInt, Int32.reduceToNatClampNeg, Int32.reduceOfNat, Bool.or_self, Bool.or_false, Bool.false_or, Bool.true_or, Bool.or_true, true_and, and_true, false_and, and_false, List.set_cons_zero, List.set_cons_succ, List.take_succ_cons, List.take_zero, List.drop_succ_cons, List.drop_zero, List.reverse_cons, List.reverse_nil, List.nil_append, List.cons_append, List.length_cons, List.length_nil, Option.toList_some, Option.toList_none, not_true_eq_false, not_false_eq_true, forall_const, true_implies, false_implies, nrw, TTS, and01, c1', c1'', not_true_eq_false, not_false_eq_true, and_true, true_and, and_false, false_and, and_self, or_true, true_or, or_false, false_or, ↓reduceIte, if_true, if_false, eq_self]
    exact hq

theorem b158 {G : xG} {m : xM} {Q : xQt} {x : Int32} (hq : Q (some (.int (bI (nI 48 ≤ x ∧ x ≤ nI 57)))) m) : Tri G 158 [.int x] m Q := by
  by_cases c1 : nI 48 ≤ x
  · have c1' : ¬ x < 48 := Int32.not_lt.mpr c1
    have c1'' : (48 : Int32) ≤ x := c1
    by_cases c2 : x ≤ nI 57
    · have c2' : x ≤ 57 := c2
      have c2'' : ¬ 57 < x := Int32.not_lt.mpr c2
      rw [bI_t ⟨c1, c2⟩] at hq
      refine tri_wp (T := TT []) (ls := [.int x]) TTn c158 (by decide +kernel) (rt0 := some .boolean) rfl rfl (Nat.le_of_ble_eq_true rfl) rfl ?_
      simp only [i158, wp_iinc, wpE0, wpE1, wpE2, wpE3, wpE4, wpE5, wpJ, okS, lt4S, popR, litS, Int32.reduceLT, Int32.reduceLE, List.getElem?_cons_zero, List.getElem?_cons_succ, Bool.false_eq_true, ↓reduceIte, Nat.reduceMod, Nat.reduceDiv, Nat.reduceAdd, Nat.reduceSub, Nat.reduceMul, Nat.reduceLeDiff, Nat.reduceEqDiff, Nat.reduceBEq, Int.reduceToNat, Int.reduceAdd, Int32.reduceOfInt, Int64.reduceOfInt, Int32.reduceToNatClampNeg, Int32.reduceOfNat, Bool.or_self, Bool.or_false, Bool.false_or, Bool.true_or, Bool.or_true, true_and, and_true, false_and, and_false, List.set_cons_zero, List.set_cons_succ, List.take_succ_cons, List.take_zero, List.drop_succ_cons, List.drop_zero, List.reverse_cons, List.reverse_nil, List.nil_append, List.cons_append, List.length_cons, List.length_nil, Option.toList_some, Option.toList_none, not_true_eq_false, not_false_eq_true, forall_const, true_implies, false_implies, nrw, TTS, and01, c1', c1'', c2', c2'', not_true_eq_false, not_false_eq_true, and_true, true_and, and_false, false_and, and_self, or_true, true_or, or_false, false_or, ↓reduceIte, if_true, if_false, eq_self]
      exact hq
    · have c2' : ¬ x ≤ 57 := c2
      have c2'' : 57 < x := Int32.not_le.mp c2
      rw [bI_f (fun y => c2 y.2)] at hq
      refine tri_wp (T := TT []) (ls := [.int x]) TTn c158 (by decide +kernel) (rt0 := some .boolean) rfl rfl (Nat.le_of_ble_eq_true rfl) rfl ?_
      simp only [i158, wp_iinc, wpE0, wpE1, wpE2, wpE3, wpE4, wpE5, wpJ, okS, lt4S, popR, litS, Int32.reduceLT, Int32.reduceLE, List.getElem?_cons_zero, List.getElem?_cons_succ, Bool.false_eq_true, ↓reduceIte, Nat.reduceMod, Nat.reduceDiv, Nat.reduceAdd, Nat.reduceSub, Nat.reduceMul, Nat.reduceLeDiff, Nat.reduceEqDiff, Nat.reduceBEq, Int.reduceToNat, Int.reduceAdd, Int32.reduceOfInt, Int64.reduceOfInt, Int32.reduceToNatClampNeg, Int32.reduceOfNat, Bool.or_self, Bool.or_false, Bool.false_or, Bool.true_or, Bool.or_true, true_and, and_true, false_and, and_false, List.set_cons_zero, List.set_cons_succ, List.take_succ_cons, List.take_zero, List.drop_succ_cons, List.drop_zero, List.reverse_cons, List.reverse_nil, List.nil_append, List.cons_append, List.length_cons, List.length_nil, Option.toList_some, Option.toList_none, not_true_eq_false, not_false_eq_true, forall_const, true_implies, false_implies, nrw, TTS, and01, c1', c1'', c2', c2'', not_true_eq_false, not_false_eq_true, and_true, true_and, and_false, false_and, and_self, or_true, true_or, or_false, false_or, ↓reduceIte, if_true, if_false, eq_self]
      exact hq
  · have c1' : x < 48 := Int32.not_le.mp c1
    have c1'' : ¬ (48 : Int32) ≤ x := c1
    rw [bI_f (fun y => c1 y.1)] at hq
    refine tri_wp (T := TT []) (ls := [.int x]) TTn c158 (by decide +kernel) (rt0 := some .boolean) rfl rfl (Nat.le_of_ble_eq_true rfl) rfl ?_
    simp only [i158, wp_iinc, wpE0, wpE1, wpE2, wpE3, wpE4, wpE5, wpJ, okS, lt4S, popR, litS, Int32.reduceLT, Int32.reduceLE, List.getElem?_cons_zero, List.getElem?_cons_succ, Bool.false_eq_true, ↓reduceIte, Nat.reduceMod, Nat.reduceDiv, Nat.reduceAdd, Nat.reduceSub, Nat.reduceMul, Nat.reduceLeDiff, Nat.reduceEqDiff, Nat.reduceBEq, Int.reduceToNat, Int.reduceAdd, Int32.reduceOfInt, Int64.reduceOfInt, Int32.reduceToNatClampNeg, Int32.reduceOfNat, Bool.or_self, Bool.or_false, Bool.false_or, Bool.true_or, Bool.or_true, true_and, and_true, false_and, and_false, List.set_cons_zero, List.set_cons_succ, List.take_succ_cons, List.take_zero, List.drop_succ_cons, List.drop_zero, List.reverse_cons, List.reverse_nil, List.nil_append, List.cons_append, List.length_cons, List.length_nil, Option.toList_some, Option.toList_none, not_true_eq_false, not_false_eq_true, forall_const, true_implies, false_implies, nrw, TTS, and01, c1', c1'', not_true_eq_false, not_false_eq_true, and_true, true_and, and_false, false_and, and_self, or_true, true_or, or_false, false_or, ↓reduceIte, if_true, if_false, eq_self]
    exact hq

def S28b (as : List Value) (m : xM) (Q : xQt) : Prop := match as with
  | [.int x] => Q (some (.int (bI (nI 97 ≤ x ∧ x ≤ nI 122)))) m
  | _ => False
theorem s28b (x : Int32) (m : xM) (Q : xQt) : S28b [.int x] m Q = Q (some (.int (bI (nI 97 ≤ x ∧ x ≤ nI 122)))) m := rfl
theorem t28b {G : xG} : ∀ as m Q, S28b as m Q → Tri G 28 as m Q := by
  intro as m Q h
  match as, h with
  | [.int x], h => exact b28 h

def S30b (as : List Value) (m : xM) (Q : xQt) : Prop := match as with
  | [.int x] => Q (some (.int (bI (nI 48 ≤ x ∧ x ≤ nI 57)))) m
  | _ => False
theorem s30b (x : Int32) (m : xM) (Q : xQt) : S30b [.int x] m Q = Q (some (.int (bI (nI 48 ≤ x ∧ x ≤ nI 57)))) m := rfl
theorem t30b {G : xG} : ∀ as m Q, S30b as m Q → Tri G 30 as m Q := by
  intro as m Q h
  match as, h with
  | [.int x], h => exact b30 h

def S157b (as : List Value) (m : xM) (Q : xQt) : Prop := match as with
  | [.int x] => Q (some (.int (bI (nI 97 ≤ x ∧ x ≤ nI 122)))) m
  | _ => False
theorem s157b (x : Int32) (m : xM) (Q : xQt) : S157b [.int x] m Q = Q (some (.int (bI (nI 97 ≤ x ∧ x ≤ nI 122)))) m := rfl
theorem t157b {G : xG} : ∀ as m Q, S157b as m Q → Tri G 157 as m Q := by
  intro as m Q h
  match as, h with
  | [.int x], h => exact b157 h

def S158b (as : List Value) (m : xM) (Q : xQt) : Prop := match as with
  | [.int x] => Q (some (.int (bI (nI 48 ≤ x ∧ x ≤ nI 57)))) m
  | _ => False
theorem s158b (x : Int32) (m : xM) (Q : xQt) : S158b [.int x] m Q = Q (some (.int (bI (nI 48 ≤ x ∧ x ≤ nI 57)))) m := rfl
theorem t158b {G : xG} : ∀ as m Q, S158b as m Q → Tri G 158 as m Q := by
  intro as m Q h
  match as, h with
  | [.int x], h => exact b158 h

theorem t29x {G : xG} {m : xM} {Q : xQt} {T : Tp} {s : Nat} (hT : tpC T m) (hs : s ≤ T.2) (h2 : m.1 5 2 = nI s) (hq : Q none (xa m 5 (upd (upd (m.1 5) 2 (nI (tL T s))) 4 1))) : Tri G 29 [.ref 5] m Q := by
  have hT1 := hT.1
  have hT2 := hT.2.1
  have e0 : (xa m 5 (upd (m.1 5) 2 (nI (s + 0)))) = m := by rw [Nat.add_zero, upd_id h2]; exact xa_id m 5
  refine tri_vc (ls := [.ref 5]) (by decide +kernel) rfl (Nat.le_of_ble_eq_true rfl) ?_
  rw [← e0]
  refine vc_findM (T.2 - s) (fun i => [.ref 5]) (fun i => (xa m 5 (upd (m.1 5) 2 (nI (s + i))))) (fun i => ¬ tle T (s + i)) (fun i hi hp hf => ?_) (fun i hi hp => ?_) (fun hf hk => ?_)
  · have hi2 : ¬ nI T.2 ≤ nI (s + i) := nI_ge (by omega) (by omega)
    have hi3 : nI (s + i) < nI T.2 := Int32.not_le.mp hi2
    have hin : vp_in (nI (s + i)) 400 := xin_nI (by omega) (by omega)
    have hp2 : ¬ (nI 97 ≤ m.1 6 (s + i) ∧ m.1 6 (s + i) ≤ nI 122) := by rw [← tp_lo hT (by omega) 97 122 (by omega) (by omega)]; exact hp
    refine vc_wp (T := TT [(28, S28b)]) (TTc t28b TTn) (fun _ => false) (rt0 := none) rfl (ckl_drop 0 c29) rfl ?_
    simp (disch := omega) only [List.drop, i29, wp_iinc, wpE0, wpE1, wpE2, wpE3, wpE4, wpE5, wpJ, okS, lt4S, popR, litS, Int32.reduceLT, Int32.reduceLE, List.getElem?_cons_zero, List.getElem?_cons_succ, Bool.false_eq_true, ↓reduceIte, Nat.reduceMod, Nat.reduceDiv, Nat.reduceAdd, Nat.reduceSub, Nat.reduceMul, Nat.reduceLeDiff, Nat.reduceEqDiff, Nat.reduceBEq, Int.reduceToNat, Int.reduceAdd, Int32.reduceOfInt, Int64.reduceOfInt, Int32.reduceToNatClampNeg, Int32.reduceOfNat, Bool.or_self, Bool.or_false, Bool.false_or, Bool.true_or, Bool.or_true, true_and, and_true, false_and, and_false, List.set_cons_zero, List.set_cons_succ, List.take_succ_cons, List.take_zero, List.drop_succ_cons, List.drop_zero, List.reverse_cons, List.reverse_nil, List.nil_append, List.cons_append, List.length_cons, List.length_nil, Option.toList_some, Option.toList_none, not_true_eq_false, not_false_eq_true, forall_const, true_implies, false_implies, nrw, TTS, shO, sh7L, and01, bI_0, bI_and, isCl, isRl, cmpS, toLS, toL_le, toL_lt, i2lS, inM, Int64.reduceLE, Int64.reduceLT, xa_1, xa_2, xa_xa, upd_at, updU, Nat.reduceEqDiff, ↓reduceIte, not_true_eq_false, not_false_eq_true, and_true, true_and, and_false, false_and, and_self, or_true, true_or, or_false, false_or, ↓reduceIte, if_true, if_false, eq_self, shO, clN, inN, linS, nI_add, hT1, s28b, hi2, hi3, hin, hp2, subS, nI_1, not_true_eq_false, not_false_eq_true, and_true, true_and, and_false, false_and, and_self, or_true, true_or, or_false, false_or, ↓reduceIte, if_true, if_false, eq_self]
    rw [show tL T s = s + i from by unfold tL; rw [hf]] at hq
    exact hq
  · have hi2 : ¬ nI T.2 ≤ nI (s + i) := nI_ge (by omega) (by omega)
    have hi3 : nI (s + i) < nI T.2 := Int32.not_le.mp hi2
    have hin : vp_in (nI (s + i)) 400 := xin_nI (by omega) (by omega)
    have hp2 : nI 97 ≤ m.1 6 (s + i) ∧ m.1 6 (s + i) ≤ nI 122 := by rw [← tp_lo hT (by omega) 97 122 (by omega) (by omega)]; exact Classical.not_not.mp hp
    refine vc_wp (T := TT [(28, S28b)]) (TTc t28b TTn) (fun _ => false) (rt0 := none) rfl (ckl_drop 0 c29) rfl ?_
    simp (disch := omega) only [List.drop, i29, wp_iinc, wpE0, wpE1, wpE2, wpE3, wpE4, wpE5, wpJ, okS, lt4S, popR, litS, Int32.reduceLT, Int32.reduceLE, List.getElem?_cons_zero, List.getElem?_cons_succ, Bool.false_eq_true, ↓reduceIte, Nat.reduceMod, Nat.reduceDiv, Nat.reduceAdd, Nat.reduceSub, Nat.reduceMul, Nat.reduceLeDiff, Nat.reduceEqDiff, Nat.reduceBEq, Int.reduceToNat, Int.reduceAdd, Int32.reduceOfInt, Int64.reduceOfInt, Int32.reduceToNatClampNeg, Int32.reduceOfNat, Bool.or_self, Bool.or_false, Bool.false_or, Bool.true_or, Bool.or_true, true_and, and_true, false_and, and_false, List.set_cons_zero, List.set_cons_succ, List.take_succ_cons, List.take_zero, List.drop_succ_cons, List.drop_zero, List.reverse_cons, List.reverse_nil, List.nil_append, List.cons_append, List.length_cons, List.length_nil, Option.toList_some, Option.toList_none, not_true_eq_false, not_false_eq_true, forall_const, true_implies, false_implies, nrw, TTS, shO, sh7L, and01, bI_0, bI_and, isCl, isRl, cmpS, toLS, toL_le, toL_lt, i2lS, inM, Int64.reduceLE, Int64.reduceLT, xa_1, xa_2, xa_xa, upd_at, updU, Nat.reduceEqDiff, ↓reduceIte, not_true_eq_false, not_false_eq_true, and_true, true_and, and_false, false_and, and_self, or_true, true_or, or_false, false_or, ↓reduceIte, if_true, if_false, eq_self, shO, clN, inN, linS, nI_add, hT1, s28b, hi2, hi3, hin, hp2, Nat.add_assoc, subS, nI_1, not_true_eq_false, not_false_eq_true, and_true, true_and, and_false, false_and, and_self, or_true, true_or, or_false, false_or, ↓reduceIte, if_true, if_false, eq_self]

  · have hi2 : nI T.2 ≤ nI (s + (T.2 - s)) := nI_le (by omega) (by omega)
    have hi3 : ¬ nI (s + (T.2 - s)) < nI T.2 := Int32.not_lt.mpr hi2
    refine vc_wp (T := TT [(28, S28b)]) (TTc t28b TTn) (fun _ => false) (rt0 := none) rfl (ckl_drop 0 c29) rfl ?_
    simp (disch := omega) only [List.drop, i29, wp_iinc, wpE0, wpE1, wpE2, wpE3, wpE4, wpE5, wpJ, okS, lt4S, popR, litS, Int32.reduceLT, Int32.reduceLE, List.getElem?_cons_zero, List.getElem?_cons_succ, Bool.false_eq_true, ↓reduceIte, Nat.reduceMod, Nat.reduceDiv, Nat.reduceAdd, Nat.reduceSub, Nat.reduceMul, Nat.reduceLeDiff, Nat.reduceEqDiff, Nat.reduceBEq, Int.reduceToNat, Int.reduceAdd, Int32.reduceOfInt, Int64.reduceOfInt, Int32.reduceToNatClampNeg, Int32.reduceOfNat, Bool.or_self, Bool.or_false, Bool.false_or, Bool.true_or, Bool.or_true, true_and, and_true, false_and, and_false, List.set_cons_zero, List.set_cons_succ, List.take_succ_cons, List.take_zero, List.drop_succ_cons, List.drop_zero, List.reverse_cons, List.reverse_nil, List.nil_append, List.cons_append, List.length_cons, List.length_nil, Option.toList_some, Option.toList_none, not_true_eq_false, not_false_eq_true, forall_const, true_implies, false_implies, nrw, TTS, shO, sh7L, and01, bI_0, bI_and, isCl, isRl, cmpS, toLS, toL_le, toL_lt, i2lS, inM, Int64.reduceLE, Int64.reduceLT, xa_1, xa_2, xa_xa, upd_at, updU, Nat.reduceEqDiff, ↓reduceIte, not_true_eq_false, not_false_eq_true, and_true, true_and, and_false, false_and, and_self, or_true, true_or, or_false, false_or, ↓reduceIte, if_true, if_false, eq_self, shO, clN, inN, linS, nI_add, hT1, hi2, hi3, subS, nI_1, not_true_eq_false, not_false_eq_true, and_true, true_and, and_false, false_and, and_self, or_true, true_or, or_false, false_or, ↓reduceIte, if_true, if_false, eq_self]
    rw [show tL T s = s + (T.2 - s) from by unfold tL; rw [hf]] at hq
    exact hq

theorem eqV1 {f : Nat → Int32} {s : Nat} {v : Int32} (h : f 2 = nI s) : upd (upd f 5 v) 2 (nI (s + 0)) = upd f 5 v := by
  funext q
  simp only [upd_at]
  by_cases e1 : q = 2
  · subst e1; simp [h]
  · simp [e1]
theorem eqV3 (f : Nat → Int32) (a b c d : Int32) : upd (upd (upd (upd f 5 a) 2 b) 5 c) 2 d = upd (upd f 5 c) 2 d := by
  funext q
  simp only [upd_at]
  by_cases e1 : q = 2
  · subst e1; simp
  · by_cases e2 : q = 5
    · subst e2; simp
    · simp [e1, e2]

theorem t31x {G : xG} {m : xM} {Q : xQt} {T : Tp} {s : Nat} (hT : tpC T m) (hs : s ≤ T.2) (h2 : m.1 5 2 = nI s) (h3 : m.1 5 3 = nI s) (hq : Q none (xa m 5 (upd (upd (upd (m.1 5) 5 (nI (vl T s (tF T s - s)))) 2 (nI (tF T s))) 4 (if 3 < tF T s - s then 4 else 2)))) : Tri G 31 [.ref 5] m Q := by
  have hT1 := hT.1
  have hT2 := hT.2.1
  refine tri_vc (ls := [.ref 5]) (by decide +kernel) rfl (Nat.le_of_ble_eq_true rfl) ?_
  refine vc_seq (pc1 := 5) (ls1 := [.ref 5]) (m1 := (xa m 5 (upd (upd (m.1 5) 5 (nI (vl T s 0))) 2 (nI (s + 0))))) (vc_wp (T := TT [(30, S30b)]) (TTc t30b TTn) (fun p => p == 5) (rt0 := none) rfl c31 rfl ?_) ?_
  · simp (disch := omega) only [i31, wp_iinc, wpE0, wpE1, wpE2, wpE3, wpE4, wpE5, wpJ, okS, lt4S, popR, litS, Int32.reduceLT, Int32.reduceLE, List.getElem?_cons_zero, List.getElem?_cons_succ, Bool.false_eq_true, ↓reduceIte, Nat.reduceMod, Nat.reduceDiv, Nat.reduceAdd, Nat.reduceSub, Nat.reduceMul, Nat.reduceLeDiff, Nat.reduceEqDiff, Nat.reduceBEq, Int.reduceToNat, Int.reduceAdd, Int32.reduceOfInt, Int64.reduceOfInt, Int32.reduceToNatClampNeg, Int32.reduceOfNat, Bool.or_self, Bool.or_false, Bool.false_or, Bool.true_or, Bool.or_true, true_and, and_true, false_and, and_false, List.set_cons_zero, List.set_cons_succ, List.take_succ_cons, List.take_zero, List.drop_succ_cons, List.drop_zero, List.reverse_cons, List.reverse_nil, List.nil_append, List.cons_append, List.length_cons, List.length_nil, Option.toList_some, Option.toList_none, not_true_eq_false, not_false_eq_true, forall_const, true_implies, false_implies, nrw, TTS, shO, sh7L, and01, bI_0, bI_and, isCl, isRl, cmpS, toLS, toL_le, toL_lt, i2lS, inM, Int64.reduceLE, Int64.reduceLT, xa_1, xa_2, xa_xa, upd_at, updU, Nat.reduceEqDiff, ↓reduceIte, not_true_eq_false, not_false_eq_true, and_true, true_and, and_false, false_and, and_self, or_true, true_or, or_false, false_or, ↓reduceIte, if_true, if_false, eq_self, shO, clN, inN, linS, nI_add, hT1, subS, not_true_eq_false, not_false_eq_true, and_true, true_and, and_false, false_and, and_self, or_true, true_or, or_false, false_or, ↓reduceIte, if_true, if_false, eq_self]
    exact congrArg (xa m 5) (eqV1 h2).symm
  refine vc_findM (T.2 - s) (fun i => [.ref 5]) (fun i => (xa m 5 (upd (upd (m.1 5) 5 (nI (vl T s i))) 2 (nI (s + i))))) (fun i => ¬ tfg T (s + i)) (fun i hi hp hf => ?_) (fun i hi hp => ?_) (fun hf hk => ?_)
  · have hi2 : ¬ nI T.2 ≤ nI (s + i) := nI_ge (by omega) (by omega)
    have hi3 : nI (s + i) < nI T.2 := Int32.not_le.mp hi2
    have hin : vp_in (nI (s + i)) 400 := xin_nI (by omega) (by omega)
    have hp2 : ¬ (nI 48 ≤ m.1 6 (s + i) ∧ m.1 6 (s + i) ≤ nI 57) := by rw [← tp_lo hT (by omega) 48 57 (by omega) (by omega)]; exact hp
    rw [show tF T s = s + i from by unfold tF; rw [hf]] at hq
    have e3 : s + i - s = i := by omega
    by_cases c3 : 3 < s + i - s
    · have c4 : ¬ nI (s + i) - nI s ≤ 3 := by rw [nI_sub (by omega)]; exact nI_ge (a := 3) c3 (by omega)
      refine vc_wp (T := TT [(30, S30b)]) (TTc t30b TTn) (fun _ => false) (rt0 := none) rfl (ckl_drop 3 c31) rfl ?_
      simp (disch := omega) only [List.drop, i31, wp_iinc, wpE0, wpE1, wpE2, wpE3, wpE4, wpE5, wpJ, okS, lt4S, popR, litS, Int32.reduceLT, Int32.reduceLE, List.getElem?_cons_zero, List.getElem?_cons_succ, Bool.false_eq_true, ↓reduceIte, Nat.reduceMod, Nat.reduceDiv, Nat.reduceAdd, Nat.reduceSub, Nat.reduceMul, Nat.reduceLeDiff, Nat.reduceEqDiff, Nat.reduceBEq, Int.reduceToNat, Int.reduceAdd, Int32.reduceOfInt, Int64.reduceOfInt, Int32.reduceToNatClampNeg, Int32.reduceOfNat, Bool.or_self, Bool.or_false, Bool.false_or, Bool.true_or, Bool.or_true, true_and, and_true, false_and, and_false, List.set_cons_zero, List.set_cons_succ, List.take_succ_cons, List.take_zero, List.drop_succ_cons, List.drop_zero, List.reverse_cons, List.reverse_nil, List.nil_append, List.cons_append, List.length_cons, List.length_nil, Option.toList_some, Option.toList_none, not_true_eq_false, not_false_eq_true, forall_const, true_implies, false_implies, nrw, TTS, shO, sh7L, and01, bI_0, bI_and, isCl, isRl, cmpS, toLS, toL_le, toL_lt, i2lS, inM, Int64.reduceLE, Int64.reduceLT, xa_1, xa_2, xa_xa, upd_at, updU, Nat.reduceEqDiff, ↓reduceIte, not_true_eq_false, not_false_eq_true, and_true, true_and, and_false, false_and, and_self, or_true, true_or, or_false, false_or, ↓reduceIte, if_true, if_false, eq_self, shO, clN, inN, linS, nI_add, hT1, s30b, hi2, hi3, hin, hp2, h3, c4, subS, nI_1, not_true_eq_false, not_false_eq_true, and_true, true_and, and_false, false_and, and_self, or_true, true_or, or_false, false_or, ↓reduceIte, if_true, if_false, eq_self]
      rw [if_pos c3, e3] at hq
      exact hq
    · have c4 : nI (s + i) - nI s ≤ 3 := by rw [nI_sub (by omega)]; exact nI_le (b := 3) (by omega) (by omega)
      refine vc_wp (T := TT [(30, S30b)]) (TTc t30b TTn) (fun _ => false) (rt0 := none) rfl (ckl_drop 3 c31) rfl ?_
      simp (disch := omega) only [List.drop, i31, wp_iinc, wpE0, wpE1, wpE2, wpE3, wpE4, wpE5, wpJ, okS, lt4S, popR, litS, Int32.reduceLT, Int32.reduceLE, List.getElem?_cons_zero, List.getElem?_cons_succ, Bool.false_eq_true, ↓reduceIte, Nat.reduceMod, Nat.reduceDiv, Nat.reduceAdd, Nat.reduceSub, Nat.reduceMul, Nat.reduceLeDiff, Nat.reduceEqDiff, Nat.reduceBEq, Int.reduceToNat, Int.reduceAdd, Int32.reduceOfInt, Int64.reduceOfInt, Int32.reduceToNatClampNeg, Int32.reduceOfNat, Bool.or_self, Bool.or_false, Bool.false_or, Bool.true_or, Bool.or_true, true_and, and_true, false_and, and_false, List.set_cons_zero, List.set_cons_succ, List.take_succ_cons, List.take_zero, List.drop_succ_cons, List.drop_zero, List.reverse_cons, List.reverse_nil, List.nil_append, List.cons_append, List.length_cons, List.length_nil, Option.toList_some, Option.toList_none, not_true_eq_false, not_false_eq_true, forall_const, true_implies, false_implies, nrw, TTS, shO, sh7L, and01, bI_0, bI_and, isCl, isRl, cmpS, toLS, toL_le, toL_lt, i2lS, inM, Int64.reduceLE, Int64.reduceLT, xa_1, xa_2, xa_xa, upd_at, updU, Nat.reduceEqDiff, ↓reduceIte, not_true_eq_false, not_false_eq_true, and_true, true_and, and_false, false_and, and_self, or_true, true_or, or_false, false_or, ↓reduceIte, if_true, if_false, eq_self, shO, clN, inN, linS, nI_add, hT1, s30b, hi2, hi3, hin, hp2, h3, c4, subS, nI_1, not_true_eq_false, not_false_eq_true, and_true, true_and, and_false, false_and, and_self, or_true, true_or, or_false, false_or, ↓reduceIte, if_true, if_false, eq_self]
      rw [if_neg c3, e3] at hq
      exact hq
  · have hi2 : ¬ nI T.2 ≤ nI (s + i) := nI_ge (by omega) (by omega)
    have hi3 : nI (s + i) < nI T.2 := Int32.not_le.mp hi2
    have hin : vp_in (nI (s + i)) 400 := xin_nI (by omega) (by omega)
    have hp1 := Classical.not_not.mp hp
    have hp2 : nI 48 ≤ m.1 6 (s + i) ∧ m.1 6 (s + i) ≤ nI 57 := by rw [← tp_lo hT (by omega) 48 57 (by omega) (by omega)]; exact hp1
    have hb : m.1 6 (s + i) = nI (T.1 (s + i)) := by
      rcases hT.2.2 (s + i) (by omega) with ⟨e, _⟩ | ⟨_, l⟩
      · exact e
      · have := hp1.2
        omega
    rw [hb] at hp2
    have hv : nI (vl T s i * 10 + T.1 (s + i)) - 48 = nI (vl T s (i + 1)) := by
      have := hp1.1
      rw [show (48 : Int32) = nI 48 from rfl, nI_sub (by omega)]
      congr 1
      show _ = vl T s i * 10 + (T.1 (s + i) - 48)
      omega
    refine vc_wp (T := TT [(30, S30b)]) (TTc t30b TTn) (fun _ => false) (rt0 := none) rfl (ckl_drop 3 c31) rfl ?_
    simp (disch := omega) only [List.drop, i31, wp_iinc, wpE0, wpE1, wpE2, wpE3, wpE4, wpE5, wpJ, okS, lt4S, popR, litS, Int32.reduceLT, Int32.reduceLE, List.getElem?_cons_zero, List.getElem?_cons_succ, Bool.false_eq_true, ↓reduceIte, Nat.reduceMod, Nat.reduceDiv, Nat.reduceAdd, Nat.reduceSub, Nat.reduceMul, Nat.reduceLeDiff, Nat.reduceEqDiff, Nat.reduceBEq, Int.reduceToNat, Int.reduceAdd, Int32.reduceOfInt, Int64.reduceOfInt, Int32.reduceToNatClampNeg, Int32.reduceOfNat, Bool.or_self, Bool.or_false, Bool.false_or, Bool.true_or, Bool.or_true, true_and, and_true, false_and, and_false, List.set_cons_zero, List.set_cons_succ, List.take_succ_cons, List.take_zero, List.drop_succ_cons, List.drop_zero, List.reverse_cons, List.reverse_nil, List.nil_append, List.cons_append, List.length_cons, List.length_nil, Option.toList_some, Option.toList_none, not_true_eq_false, not_false_eq_true, forall_const, true_implies, false_implies, nrw, TTS, shO, sh7L, and01, bI_0, bI_and, isCl, isRl, cmpS, toLS, toL_le, toL_lt, i2lS, inM, Int64.reduceLE, Int64.reduceLT, xa_1, xa_2, xa_xa, upd_at, updU, Nat.reduceEqDiff, ↓reduceIte, not_true_eq_false, not_false_eq_true, and_true, true_and, and_false, false_and, and_self, or_true, true_or, or_false, false_or, ↓reduceIte, if_true, if_false, eq_self, shO, clN, inN, linS, nI_add, hT1, s30b, hi2, hi3, hin, hp2, hb, hv, Nat.add_assoc, subS, nI_1, not_true_eq_false, not_false_eq_true, and_true, true_and, and_false, false_and, and_self, or_true, true_or, or_false, false_or, ↓reduceIte, if_true, if_false, eq_self]
    exact congrArg (xa m 5) (eqV3 _ _ _ _ _)
  · have hi2 : nI T.2 ≤ nI (s + (T.2 - s)) := nI_le (by omega) (by omega)
    have hi3 : ¬ nI (s + (T.2 - s)) < nI T.2 := Int32.not_lt.mpr hi2
    rw [show tF T s = s + (T.2 - s) from by unfold tF; rw [hf]] at hq
    have e3 : s + (T.2 - s) - s = T.2 - s := by omega
    by_cases c3 : 3 < s + (T.2 - s) - s
    · have c4 : ¬ nI (s + (T.2 - s)) - nI s ≤ 3 := by rw [nI_sub (by omega)]; exact nI_ge (a := 3) c3 (by omega)
      refine vc_wp (T := TT [(30, S30b)]) (TTc t30b TTn) (fun _ => false) (rt0 := none) rfl (ckl_drop 3 c31) rfl ?_
      simp (disch := omega) only [List.drop, i31, wp_iinc, wpE0, wpE1, wpE2, wpE3, wpE4, wpE5, wpJ, okS, lt4S, popR, litS, Int32.reduceLT, Int32.reduceLE, List.getElem?_cons_zero, List.getElem?_cons_succ, Bool.false_eq_true, ↓reduceIte, Nat.reduceMod, Nat.reduceDiv, Nat.reduceAdd, Nat.reduceSub, Nat.reduceMul, Nat.reduceLeDiff, Nat.reduceEqDiff, Nat.reduceBEq, Int.reduceToNat, Int.reduceAdd, Int32.reduceOfInt, Int64.reduceOfInt, Int32.reduceToNatClampNeg, Int32.reduceOfNat, Bool.or_self, Bool.or_false, Bool.false_or, Bool.true_or, Bool.or_true, true_and, and_true, false_and, and_false, List.set_cons_zero, List.set_cons_succ, List.take_succ_cons, List.take_zero, List.drop_succ_cons, List.drop_zero, List.reverse_cons, List.reverse_nil, List.nil_append, List.cons_append, List.length_cons, List.length_nil, Option.toList_some, Option.toList_none, not_true_eq_false, not_false_eq_true, forall_const, true_implies, false_implies, nrw, TTS, shO, sh7L, and01, bI_0, bI_and, isCl, isRl, cmpS, toLS, toL_le, toL_lt, i2lS, inM, Int64.reduceLE, Int64.reduceLT, xa_1, xa_2, xa_xa, upd_at, updU, Nat.reduceEqDiff, ↓reduceIte, not_true_eq_false, not_false_eq_true, and_true, true_and, and_false, false_and, and_self, or_true, true_or, or_false, false_or, ↓reduceIte, if_true, if_false, eq_self, shO, clN, inN, linS, nI_add, hT1, hi2, hi3, h3, c4, subS, nI_1, not_true_eq_false, not_false_eq_true, and_true, true_and, and_false, false_and, and_self, or_true, true_or, or_false, false_or, ↓reduceIte, if_true, if_false, eq_self]
      rw [if_pos c3, e3] at hq
      exact hq
    · have c4 : nI (s + (T.2 - s)) - nI s ≤ 3 := by rw [nI_sub (by omega)]; exact nI_le (b := 3) (by omega) (by omega)
      refine vc_wp (T := TT [(30, S30b)]) (TTc t30b TTn) (fun _ => false) (rt0 := none) rfl (ckl_drop 3 c31) rfl ?_
      simp (disch := omega) only [List.drop, i31, wp_iinc, wpE0, wpE1, wpE2, wpE3, wpE4, wpE5, wpJ, okS, lt4S, popR, litS, Int32.reduceLT, Int32.reduceLE, List.getElem?_cons_zero, List.getElem?_cons_succ, Bool.false_eq_true, ↓reduceIte, Nat.reduceMod, Nat.reduceDiv, Nat.reduceAdd, Nat.reduceSub, Nat.reduceMul, Nat.reduceLeDiff, Nat.reduceEqDiff, Nat.reduceBEq, Int.reduceToNat, Int.reduceAdd, Int32.reduceOfInt, Int64.reduceOfInt, Int32.reduceToNatClampNeg, Int32.reduceOfNat, Bool.or_self, Bool.or_false, Bool.false_or, Bool.true_or, Bool.or_true, true_and, and_true, false_and, and_false, List.set_cons_zero, List.set_cons_succ, List.take_succ_cons, List.take_zero, List.drop_succ_cons, List.drop_zero, List.reverse_cons, List.reverse_nil, List.nil_append, List.cons_append, List.length_cons, List.length_nil, Option.toList_some, Option.toList_none, not_true_eq_false, not_false_eq_true, forall_const, true_implies, false_implies, nrw, TTS, shO, sh7L, and01, bI_0, bI_and, isCl, isRl, cmpS, toLS, toL_le, toL_lt, i2lS, inM, Int64.reduceLE, Int64.reduceLT, xa_1, xa_2, xa_xa, upd_at, updU, Nat.reduceEqDiff, ↓reduceIte, not_true_eq_false, not_false_eq_true, and_true, true_and, and_false, false_and, and_self, or_true, true_or, or_false, false_or, ↓reduceIte, if_true, if_false, eq_self, shO, clN, inN, linS, nI_add, hT1, hi2, hi3, h3, c4, subS, nI_1, not_true_eq_false, not_false_eq_true, and_true, true_and, and_false, false_and, and_self, or_true, true_or, or_false, false_or, ↓reduceIte, if_true, if_false, eq_self]
      rw [if_neg c3, e3] at hq
      exact hq

