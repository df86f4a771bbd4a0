def gn (f : Nat → Int32) (b : Nat) : Int32 := f (2 * b + 1) - f (2 * b)
def lk (f : Nat → Int32) : Nat → Int32
  | 0 => 0
  | b + 1 => if gn f b < 0 then lk f b ||| 1 <<< (nI b &&& 31) else lk f b
def mr (f : Nat → Int32) : Nat → Int32
  | 0 => 0
  | b + 1 => if gn f b < 0 then mr f b else mr f b + gn f b
theorem gn_c {f g : Nat → Int32} {n : Nat} (h : ∀ i, i < 2 * n → f i = g i) {b : Nat} (hb : b < n) : gn f b = gn g b := by
  unfold gn; rw [h _ (by omega), h _ (by omega)]
theorem lk_c {f g : Nat → Int32} : ∀ {n : Nat}, (∀ i, i < 2 * n → f i = g i) → lk f n = lk g n ∧ mr f n = mr g n
  | 0, _ => ⟨rfl, rfl⟩
  | n + 1, h => by
    have ih := lk_c (f := f) (g := g) (n := n) (fun i hi => h i (by omega))
    unfold lk mr
    rw [ih.1, ih.2, gn_c h (show n < n + 1 by omega)]
    exact ⟨rfl, rfl⟩
theorem or0 (x : Int32) : x ||| 0 = x := by
  apply Int32.toBitVec_inj.mp
  simp

def S112 (as : List Value) (m : xM) (Q : xQt) : Prop := match as with
  | [.ref o, .int a, .int a2] => wp (fun _ _ _ _ => False) (fun _ => false) Q (some .int) (TT []) none i112 [.ref o, .int a, .int a2] [] m
  | _ => False
theorem s112 (o : Nat) (a : Int32) (a2 : Int32) (m : xM) (Q : xQt) : S112 [.ref o, .int a, .int a2] m Q = wp (fun _ _ _ _ => False) (fun _ => false) Q (some .int) (TT []) none i112 [.ref o, .int a, .int a2] [] m := rfl
theorem t112 {G : xG} : ∀ as m Q, S112 as m Q → Tri G 112 as m Q := by
  intro as m Q h
  match as, h with
  | [.ref o, .int a, .int a2], h => exact tri_wp (T := TT []) (ls := [.ref o, .int a, .int a2]) TTn c112 (by decide +kernel) (rt0 := some .int) rfl rfl (Nat.le_of_ble_eq_true rfl) rfl h

theorem t111x {G : xG} {m : xM} {Q : xQt} {r n : Nat} {c : Int32} (hr : r < 8) (hn : n ≤ 40) (h : Q (some (.int (bI (fi (fun i => m.1 4 (r * 40 + i) < 0 ∨ ¬ m.1 4 (r * 40 + i) ≤ c) n = n)))) m) : Tri G 111 [.ref 1, .int (nI r), .int (nI n), .int c] m Q := by
  refine tri_vc (ls := [.ref 1, .int (nI r), .int (nI n), .int c, .null]) (by decide +kernel) rfl (Nat.le_of_ble_eq_true rfl) ?_
  refine vc_seq (pc1 := 3) (ls1 := [.ref 1, .int (nI r), .int (nI n), .int c, .int 0]) (m1 := m) (vc_wp (T := TT [(112, S112)]) (TTc t112 TTn) (fun p => p == 3) (rt0 := some .boolean) rfl c111 rfl ?_) ?_
  · simp (disch := omega) only [i111, wp_iinc, wpE0, wpE1, wpE2, wpE3, wpE4, wpE5, wpJ, okS, lt4S, popR, litS, Int32.reduceLT, Int32.reduceLE, List.getElem?_cons_zero, List.getElem?_cons_succ, Bool.false_eq_true, ↓reduceIte, Nat.reduceMod, Nat.reduceDiv, Nat.reduceAdd, Nat.reduceSub, Nat.reduceMul, Nat.reduceLeDiff, Nat.reduceEqDiff, Nat.reduceBEq, Int.reduceToNat, Int.reduceAdd, Int32.reduceOfInt, Int64.reduceOfInt, Int32.reduceToNatClampNeg, Int32.reduceOfNat, Bool.or_self, Bool.or_false, Bool.false_or, Bool.true_or, Bool.or_true, true_and, and_true, false_and, and_false, List.set_cons_zero, List.set_cons_succ, List.take_succ_cons, List.take_zero, List.drop_succ_cons, List.drop_zero, List.reverse_cons, List.reverse_nil, List.nil_append, List.cons_append, List.length_cons, List.length_nil, Option.toList_some, Option.toList_none, not_true_eq_false, not_false_eq_true, forall_const, true_implies, false_implies, nrw, TTS, s112, i112, shO, and01, litS, linS, nI_add, clN, inN, subS, not_true_eq_false, not_false_eq_true, and_true, true_and, and_false, false_and, and_self, or_true, true_or, or_false, false_or, ↓reduceIte, if_true, if_false, eq_self]
  refine vc_find n (fun i => [.ref 1, .int (nI r), .int (nI n), .int c, .int (nI i)]) m (fun i => m.1 4 (r * 40 + i) < 0 ∨ ¬ m.1 4 (r * 40 + i) ≤ c) (fun i hi hp hf => ?_) (fun i hi hp => ?_) (fun hf hk => ?_)
  · refine vc_wp (T := TT [(112, S112)]) (TTc t112 TTn) (fun _ => false) (rt0 := some .boolean) rfl (ckl_drop 2 c111) rfl ?_
    have hi2 : ¬ nI n ≤ nI i := nI_ge hi (by omega)
    simp (disch := omega) only [List.drop, i111, wp_iinc, wpE0, wpE1, wpE2, wpE3, wpE4, wpE5, wpJ, okS, lt4S, popR, litS, Int32.reduceLT, Int32.reduceLE, List.getElem?_cons_zero, List.getElem?_cons_succ, Bool.false_eq_true, ↓reduceIte, Nat.reduceMod, Nat.reduceDiv, Nat.reduceAdd, Nat.reduceSub, Nat.reduceMul, Nat.reduceLeDiff, Nat.reduceEqDiff, Nat.reduceBEq, Int.reduceToNat, Int.reduceAdd, Int32.reduceOfInt, Int64.reduceOfInt, Int32.reduceToNatClampNeg, Int32.reduceOfNat, Bool.or_self, Bool.or_false, Bool.false_or, Bool.true_or, Bool.or_true, true_and, and_true, false_and, and_false, List.set_cons_zero, List.set_cons_succ, List.take_succ_cons, List.take_zero, List.drop_succ_cons, List.drop_zero, List.reverse_cons, List.reverse_nil, List.nil_append, List.cons_append, List.length_cons, List.length_nil, Option.toList_some, Option.toList_none, not_true_eq_false, not_false_eq_true, forall_const, true_implies, false_implies, nrw, TTS, s112, i112, shO, and01, litS, linS, nI_add, clN, inN, subS, nI_1, hi2, not_true_eq_false, not_false_eq_true, and_true, true_and, and_false, false_and, and_self, or_true, true_or, or_false, false_or, ↓reduceIte, if_true, if_false, eq_self]
    refine ⟨fun z => ?_, fun z => ⟨fun z2 => absurd z2 (hp.resolve_left z), fun z2 => ?_⟩⟩ <;> (rw [bI_f (by rw [hf]; omega)] at h; exact h)
  · refine vc_wp (T := TT [(112, S112)]) (TTc t112 TTn) (fun _ => false) (rt0 := some .boolean) rfl (ckl_drop 2 c111) rfl ?_
    have hi2 : ¬ nI n ≤ nI i := nI_ge hi (by omega)
    have hp2 := hp
    have hpa : ¬ m.1 4 (r * 40 + i) < 0 := fun z => hp (Or.inl z)
    have hpb : m.1 4 (r * 40 + i) ≤ c := Classical.not_not.mp (fun z => hp (Or.inr z))
    simp (disch := omega) only [List.drop, i111, wp_iinc, wpE0, wpE1, wpE2, wpE3, wpE4, wpE5, wpJ, okS, lt4S, popR, litS, Int32.reduceLT, Int32.reduceLE, List.getElem?_cons_zero, List.getElem?_cons_succ, Bool.false_eq_true, ↓reduceIte, Nat.reduceMod, Nat.reduceDiv, Nat.reduceAdd, Nat.reduceSub, Nat.reduceMul, Nat.reduceLeDiff, Nat.reduceEqDiff, Nat.reduceBEq, Int.reduceToNat, Int.reduceAdd, Int32.reduceOfInt, Int64.reduceOfInt, Int32.reduceToNatClampNeg, Int32.reduceOfNat, Bool.or_self, Bool.or_false, Bool.false_or, Bool.true_or, Bool.or_true, true_and, and_true, false_and, and_false, List.set_cons_zero, List.set_cons_succ, List.take_succ_cons, List.take_zero, List.drop_succ_cons, List.drop_zero, List.reverse_cons, List.reverse_nil, List.nil_append, List.cons_append, List.length_cons, List.length_nil, Option.toList_some, Option.toList_none, not_true_eq_false, not_false_eq_true, forall_const, true_implies, false_implies, nrw, TTS, s112, i112, shO, and01, litS, linS, nI_add, clN, inN, subS, nI_1, hi2, hpa, hpb, (show ∀ x : Nat, 20 + (x + 1) = 20 + x + 1 from fun _ => rfl), not_true_eq_false, not_false_eq_true, and_true, true_and, and_false, false_and, and_self, or_true, true_or, or_false, false_or, ↓reduceIte, if_true, if_false, eq_self]

  · have hi2 : nI n ≤ nI n := Int32.le_refl _
    refine vc_wp (T := TT [(112, S112)]) (TTc t112 TTn) (fun _ => false) (rt0 := some .boolean) rfl (ckl_drop 2 c111) rfl ?_
    simp (disch := omega) only [List.drop, i111, wp_iinc, wpE0, wpE1, wpE2, wpE3, wpE4, wpE5, wpJ, okS, lt4S, popR, litS, Int32.reduceLT, Int32.reduceLE, List.getElem?_cons_zero, List.getElem?_cons_succ, Bool.false_eq_true, ↓reduceIte, Nat.reduceMod, Nat.reduceDiv, Nat.reduceAdd, Nat.reduceSub, Nat.reduceMul, Nat.reduceLeDiff, Nat.reduceEqDiff, Nat.reduceBEq, Int.reduceToNat, Int.reduceAdd, Int32.reduceOfInt, Int64.reduceOfInt, Int32.reduceToNatClampNeg, Int32.reduceOfNat, Bool.or_self, Bool.or_false, Bool.false_or, Bool.true_or, Bool.or_true, true_and, and_true, false_and, and_false, List.set_cons_zero, List.set_cons_succ, List.take_succ_cons, List.take_zero, List.drop_succ_cons, List.drop_zero, List.reverse_cons, List.reverse_nil, List.nil_append, List.cons_append, List.length_cons, List.length_nil, Option.toList_some, Option.toList_none, not_true_eq_false, not_false_eq_true, forall_const, true_implies, false_implies, nrw, TTS, s112, i112, shO, and01, litS, linS, nI_add, clN, inN, hi2, not_true_eq_false, not_false_eq_true, and_true, true_and, and_false, false_and, and_self, or_true, true_or, or_false, false_or, ↓reduceIte, if_true, if_false, eq_self]
    rw [bI_t hf] at h
    exact h

def S111 (as : List Value) (m : xM) (Q : xQt) : Prop := match as with
  | [.ref o, .int a, .int n, .int c] => o = 1 ∧ (a = nI (ix a) ∧ n = nI (ix n)) ∧ ix a < 8 ∧ ix n ≤ 40 ∧ Q (some (.int (bI (fi (fun i => m.1 4 (ix a * 40 + i) < 0 ∨ ¬ m.1 4 (ix a * 40 + i) ≤ c) (ix n) = ix n)))) m
  | _ => False
theorem s111 (o : Nat) (a : Int32) (n : Int32) (c : Int32) (m : xM) (Q : xQt) : S111 [.ref o, .int a, .int n, .int c] m Q = (o = 1 ∧ (a = nI (ix a) ∧ n = nI (ix n)) ∧ ix a < 8 ∧ ix n ≤ 40 ∧ Q (some (.int (bI (fi (fun i => m.1 4 (ix a * 40 + i) < 0 ∨ ¬ m.1 4 (ix a * 40 + i) ≤ c) (ix n) = ix n)))) m) := rfl
theorem t111 {G : xG} : ∀ as m Q, S111 as m Q → Tri G 111 as m Q := by
  intro as m Q h
  match as, h with
  | [.ref o, .int a, .int n, .int c], h =>
    obtain ⟨ho, ⟨h1, h2⟩, h3, h4, h⟩ := h
    subst ho
    rw [h1, h2]
    exact t111x h3 h4 h

theorem t125x {G : xG} {m : xM} {Q : xQt} {r n : Nat} {c : Int32} (hr : r < 8) (hn : n ≤ 6) (h : Q (some (.int (if c = 0 then lk (fun k => m.1 4 (r * 40 + k)) n else if c = 1 then mr (fun k => m.1 4 (r * 40 + k)) n else if lk (fun k => m.1 4 (r * 40 + k)) n = 0 ∧ mr (fun k => m.1 4 (r * 40 + k)) n = 0 then 1 else 0))) m) : Tri G 125 [.ref 1, .int (nI r), .int (nI n), .int c] m Q := by
  refine tri_vc (ls := [.ref 1, .int (nI r), .int (nI n), .int c, .null, .null, .null, .null]) (by decide +kernel) rfl (Nat.le_of_ble_eq_true rfl) ?_
  refine vc_seq (pc1 := 9) (ls1 := [.ref 1, .int (nI r), .int (nI n), .int c, .int 0, .int 0, .int 0, .null]) (m1 := m) (vc_wp (T := TT [(112, S112)]) (TTc t112 TTn) (fun p => p == 9) (rt0 := some .int) rfl c125 rfl ?_) ?_
  · simp (disch := omega) only [i125, wp_iinc, wpE0, wpE1, wpE2, wpE3, wpE4, wpE5, wpJ, okS, lt4S, popR, litS, Int32.reduceLT, Int32.reduceLE, List.getElem?_cons_zero, List.getElem?_cons_succ, Bool.false_eq_true, ↓reduceIte, Nat.reduceMod, Nat.reduceDiv, Nat.reduceAdd, Nat.reduceSub, Nat.reduceMul, Nat.reduceLeDiff, Nat.reduceEqDiff, Nat.reduceBEq, Int.reduceToNat, Int.reduceAdd, Int32.reduceOfInt, Int64.reduceOfInt, Int32.reduceToNatClampNeg, Int32.reduceOfNat, Bool.or_self, Bool.or_false, Bool.false_or, Bool.true_or, Bool.or_true, true_and, and_true, false_and, and_false, List.set_cons_zero, List.set_cons_succ, List.take_succ_cons, List.take_zero, List.drop_succ_cons, List.drop_zero, List.reverse_cons, List.reverse_nil, List.nil_append, List.cons_append, List.length_cons, List.length_nil, Option.toList_some, Option.toList_none, not_true_eq_false, not_false_eq_true, forall_const, true_implies, false_implies, nrw, TTS, s112, i112, shO, and01, litS, linS, nI_add, clN, inN, subS, not_true_eq_false, not_false_eq_true, and_true, true_and, and_false, false_and, and_self, or_true, true_or, or_false, false_or, ↓reduceIte, if_true, if_false, eq_self]
  have hgn : ∀ i : Nat, m.1 4 (r * 40 + (2 * i + 1)) - m.1 4 (r * 40 + 2 * i) = gn (fun k => m.1 4 (r * 40 + k)) i := fun i => rfl
  refine vc_for n (fun i => [.ref 1, .int (nI r), .int (nI n), .int c, .int (lk (fun k => m.1 4 (r * 40 + k)) i), .int (mr (fun k => m.1 4 (r * 40 + k)) i), .int (nI i), .null]) (fun i => m) (fun i hi => ?_) ?_
  · refine vc_wp (T := TT [(112, S112)]) (TTc t112 TTn) (fun _ => false) (rt0 := some .int) rfl (ckl_drop 6 c125) rfl ?_
    have hi2 : ¬ nI n ≤ nI i := nI_ge hi (by omega)
    simp (disch := omega) only [List.drop, i125, wp_iinc, wpE0, wpE1, wpE2, wpE3, wpE4, wpE5, wpJ, okS, lt4S, popR, litS, Int32.reduceLT, Int32.reduceLE, List.getElem?_cons_zero, List.getElem?_cons_succ, Bool.false_eq_true, ↓reduceIte, Nat.reduceMod, Nat.reduceDiv, Nat.reduceAdd, Nat.reduceSub, Nat.reduceMul, Nat.reduceLeDiff, Nat.reduceEqDiff, Nat.reduceBEq, Int.reduceToNat, Int.reduceAdd, Int32.reduceOfInt, Int64.reduceOfInt, Int32.reduceToNatClampNeg, Int32.reduceOfNat, Bool.or_self, Bool.or_false, Bool.false_or, Bool.true_or, Bool.or_true, true_and, and_true, false_and, and_false, List.set_cons_zero, List.set_cons_succ, List.take_succ_cons, List.take_zero, List.drop_succ_cons, List.drop_zero, List.reverse_cons, List.reverse_nil, List.nil_append, List.cons_append, List.length_cons, List.length_nil, Option.toList_some, Option.toList_none, not_true_eq_false, not_false_eq_true, forall_const, true_implies, false_implies, nrw, TTS, s112, i112, shO, and01, litS, linS, nI_add, clN, inN, hgn, lk, mr, subS, hi2, nI_1, fd, not_true_eq_false, not_false_eq_true, and_true, true_and, and_false, false_and, and_self, or_true, true_or, or_false, false_or, ↓reduceIte, if_true, if_false, eq_self]
    by_cases z : gn (fun k => m.1 4 (r * 40 + k)) i < 0
    · have z2 : ¬ 0 ≤ gn (fun k => m.1 4 (r * 40 + k)) i := Int32.not_le.mpr z
      simp only [z, z2, false_implies, true_implies, not_true_eq_false, not_false_eq_true, and_true, true_and, and_false, false_and, and_self, or_true, true_or, or_false, false_or, ↓reduceIte, if_true, if_false, eq_self]
    · have z2 : 0 ≤ gn (fun k => m.1 4 (r * 40 + k)) i := Int32.not_lt.mp z
      simp only [z, z2, false_implies, true_implies, not_true_eq_false, not_false_eq_true, and_true, true_and, and_false, false_and, and_self, or_true, true_or, or_false, false_or, ↓reduceIte, if_true, if_false, eq_self]
  · have hi2 : nI n ≤ nI n := Int32.le_refl _
    refine vc_wp (T := TT [(112, S112)]) (TTc t112 TTn) (fun _ => false) (rt0 := some .int) rfl (ckl_drop 6 c125) rfl ?_
    simp (disch := omega) only [List.drop, i125, wp_iinc, wpE0, wpE1, wpE2, wpE3, wpE4, wpE5, wpJ, okS, lt4S, popR, litS, Int32.reduceLT, Int32.reduceLE, List.getElem?_cons_zero, List.getElem?_cons_succ, Bool.false_eq_true, ↓reduceIte, Nat.reduceMod, Nat.reduceDiv, Nat.reduceAdd, Nat.reduceSub, Nat.reduceMul, Nat.reduceLeDiff, Nat.reduceEqDiff, Nat.reduceBEq, Int.reduceToNat, Int.reduceAdd, Int32.reduceOfInt, Int64.reduceOfInt, Int32.reduceToNatClampNeg, Int32.reduceOfNat, Bool.or_self, Bool.or_false, Bool.false_or, Bool.true_or, Bool.or_true, true_and, and_true, false_and, and_false, List.set_cons_zero, List.set_cons_succ, List.take_succ_cons, List.take_zero, List.drop_succ_cons, List.drop_zero, List.reverse_cons, List.reverse_nil, List.nil_append, List.cons_append, List.length_cons, List.length_nil, Option.toList_some, Option.toList_none, not_true_eq_false, not_false_eq_true, forall_const, true_implies, false_implies, nrw, TTS, s112, i112, shO, and01, litS, linS, nI_add, clN, inN, hi2, not_true_eq_false, not_false_eq_true, and_true, true_and, and_false, false_and, and_self, or_true, true_or, or_false, false_or, ↓reduceIte, if_true, if_false, eq_self]
    refine ⟨fun z => ?_, fun z => ⟨fun z2 => ?_, fun z2 => ⟨fun z3 => ⟨fun z4 => ?_, fun z4 => ?_⟩, fun z3 => ?_⟩⟩⟩
    · rw [if_pos z] at h; exact h
    · rw [if_neg z, if_pos z2] at h; exact h
    · rw [if_neg z, if_neg z2, if_pos ⟨z3, z4⟩] at h; exact h
    · rw [if_neg z, if_neg z2, if_neg (fun y => z4 y.2)] at h; exact h
    · rw [if_neg z, if_neg z2, if_neg (fun y => z3 y.1)] at h; exact h

def S125 (as : List Value) (m : xM) (Q : xQt) : Prop := match as with
  | [.ref o, .int a, .int n, .int c] => o = 1 ∧ (a = nI (ix a) ∧ n = nI (ix n)) ∧ ix a < 8 ∧ ix n ≤ 6 ∧ Q (some (.int (if c = 0 then lk (fun k => m.1 4 (ix a * 40 + k)) (ix n) else if c = 1 then mr (fun k => m.1 4 (ix a * 40 + k)) (ix n) else if lk (fun k => m.1 4 (ix a * 40 + k)) (ix n) = 0 ∧ mr (fun k => m.1 4 (ix a * 40 + k)) (ix n) = 0 then 1 else 0))) m
  | _ => False
theorem s125 (o : Nat) (a : Int32) (n : Int32) (c : Int32) (m : xM) (Q : xQt) : S125 [.ref o, .int a, .int n, .int c] m Q = (o = 1 ∧ (a = nI (ix a) ∧ n = nI (ix n)) ∧ ix a < 8 ∧ ix n ≤ 6 ∧ Q (some (.int (if c = 0 then lk (fun k => m.1 4 (ix a * 40 + k)) (ix n) else if c = 1 then mr (fun k => m.1 4 (ix a * 40 + k)) (ix n) else if lk (fun k => m.1 4 (ix a * 40 + k)) (ix n) = 0 ∧ mr (fun k => m.1 4 (ix a * 40 + k)) (ix n) = 0 then 1 else 0))) m) := rfl
theorem t125 {G : xG} : ∀ as m Q, S125 as m Q → Tri G 125 as m Q := by
  intro as m Q h
  match as, h with
  | [.ref o, .int a, .int n, .int c], h =>
    obtain ⟨ho, ⟨h1, h2⟩, h3, h4, h⟩ := h
    subst ho
    rw [h1, h2]
    exact t125x h3 h4 h

