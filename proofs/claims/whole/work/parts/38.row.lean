theorem isR_eq (a : Int32) : (0 ≤ a ∧ a ≤ 7) = (¬ a < 0 ∧ ¬ 8 ≤ a) := by
  apply propext
  simp only [Int32.lt_iff_toInt_lt, Int32.le_iff_toInt_le]
  show (0 : Int) ≤ a.toInt ∧ a.toInt ≤ 7 ↔ ¬ a.toInt < 0 ∧ ¬ (8 : Int) ≤ a.toInt
  omega
theorem row_of {a : Int32} (h : ¬ a < 0 ∧ ¬ 8 ≤ a) : ∃ j, j < 8 ∧ a = nI j ∧ ix (nI j) = j ∧ vp_in (nI j) 8 := by
  obtain ⟨e1, e2⟩ := ix_of h.1
  have h2 := h.2
  rw [Int32.le_iff_toInt_le] at h2
  have h2 : ¬ (8 : Int) ≤ a.toInt := h2
  have h3 : ix a < 8 := by show a.toInt.toNat < 8; omega
  refine ⟨ix a, h3, e1, ?_, ?_⟩
  · rw [← e1]
  · rw [← e1]; exact xin h.1 h3
abbrev rowP (la si it la' ma' it' : Nat → Int32) (r : Nat) : Prop := (si r = -1 ∧ la' r = -1) ∨ (bt (si r) 0 40 ∧ ma' r = si r ∧ la r = la' r ∧ bt (la' r) 0 2 ∧ ∀ i, i < ix (si r) → it (40 * r + i) = it' (40 * r + i))
theorem Rrows_at {la si it la' ma' it' la2 si2 it2 la2' ma2' it2' : Nat → Int32} {r : Nat} (h : Rrows la si it la' ma' it') (hn : rowP la2 si2 it2 la2' ma2' it2' r) (h1 : ∀ q, q ≠ r → la2 q = la q ∧ si2 q = si q ∧ la2' q = la' q ∧ ma2' q = ma' q) (h2 : ∀ q i, q ≠ r → i < 40 → it2 (40 * q + i) = it (40 * q + i) ∧ it2' (40 * q + i) = it' (40 * q + i)) : Rrows la2 si2 it2 la2' ma2' it2' := by
  intro q hq
  by_cases e : q = r
  · subst e; exact hn
  · obtain ⟨e1, e2, e3, e4⟩ := h1 q e
    rw [e1, e2, e3, e4]
    rcases h q hq with z | ⟨z1, z2, z3, z4, z5⟩
    · exact Or.inl z
    · refine Or.inr ⟨z1, z2, z3, z4, fun i hi => ?_⟩
      have := (ix_b (n := 40) (by decide) z1).1
      rw [(h2 q i e (by omega)).1, (h2 q i e (by omega)).2]
      exact z5 i hi
theorem neg1 : ((-1 : Int32) = -1) = True ∧ ((0 : Int32) ≤ -1) = False ∧ ((-1 : Int32) < 0) = True := by decide
theorem ofI1 : Int32.ofInt (-1) = (-1 : Int32) := by decide
theorem b2_3 {a : Int32} (h : bt a 0 2) : a = 0 ∨ a = 1 ∨ a = 2 := by
  have h1 := h.1
  have h2 := h.2
  simp only [← Int32.toInt_inj]
  show a.toInt = 0 ∨ a.toInt = 1 ∨ a.toInt = 2
  omega
theorem bt_ge0 {a : Int32} {u : Int} (h : bt a 0 u) : 0 ≤ a := by rw [Int32.le_iff_toInt_le]; exact h.1
theorem bt_n1 {a : Int32} {u : Int} (h : bt a 0 u) : ¬ a = -1 := by
  intro q
  rw [q] at h
  exact absurd h.1 (by decide)
theorem bt_of {a b c : Int32} {l u : Int} (h1 : ¬ a < b) (h2 : ¬ c < a) (hb : b.toInt = l) (hc : c.toInt = u) : bt a l u := by
  rw [Int32.lt_iff_toInt_lt] at h1 h2
  exact ⟨by omega, by omega⟩

def S15 (as : List Value) (m : xM) (Q : xQt) : Prop := match as with
  | [.ref o, .int a] => (o = 1) ∧ (vp_in a 8) ∧ Q (some (.int (bI (m.1 3 (ix a) = -1)))) (m)
  | _ => False
theorem s15 (o : Nat) (a : Int32) (m : xM) (Q : xQt) : S15 [.ref o, .int a] m Q = ((o = 1) ∧ (vp_in a 8) ∧ Q (some (.int (bI (m.1 3 (ix a) = -1)))) (m)) := rfl
theorem t15 {G : xG} : ∀ as m Q, S15 as m Q → Tri G 15 as m Q := by
  intro as m Q h
  match as, h with
  | [.ref o, .int a], h =>
    obtain ⟨rfl, hi, h⟩ := h
    refine tri_wp (T := TT []) (ls := [.ref 1, .int a]) TTn c15 (by decide +kernel) (rt0 := some .boolean) rfl rfl (Nat.le_of_ble_eq_true rfl) rfl ?_
    simp only [i15, wp_iinc, wpE0, wpE1, wpE2, wpE3, wpE4, wpE5, wpJ, okS, lt4S, popR, litS, Int32.reduceLT, Int32.reduceLE, List.getElem?_cons_zero, List.getElem?_cons_succ, Bool.false_eq_true, ↓reduceIte, Nat.reduceMod, Nat.reduceDiv, Nat.reduceAdd, Nat.reduceSub, Nat.reduceMul, Nat.reduceLeDiff, Nat.reduceEqDiff, Nat.reduceBEq, Int.reduceToNat, Int.reduceAdd, Int32.reduceOfInt, Int64.reduceOfInt, Int32.reduceToNatClampNeg, Int32.reduceOfNat, Bool.or_self, Bool.or_false, Bool.false_or, Bool.true_or, Bool.or_true, true_and, and_true, false_and, and_false, List.set_cons_zero, List.set_cons_succ, List.take_succ_cons, List.take_zero, List.drop_succ_cons, List.drop_zero, List.reverse_cons, List.reverse_nil, List.nil_append, List.cons_append, List.length_cons, List.length_nil, Option.toList_some, Option.toList_none, not_true_eq_false, not_false_eq_true, forall_const, true_implies, false_implies, nrw, TTS, shO, and01, ofI1, hi]
    repeat' (first | apply And.intro | intro _)
    all_goals first | trivial | exact h | (simp only [*, bI, ix, not_true_eq_false, not_false_eq_true, and_true, true_and, and_false, false_and, and_self, or_true, true_or, or_false, false_or, ↓reduceIte, if_true, if_false, eq_self] at h; exact h) | (simp only [*, not_true_eq_false, not_false_eq_true, and_true, true_and, and_false, false_and, and_self, or_true, true_or, or_false, false_or, ↓reduceIte, if_true, if_false, eq_self]; done)

def S16 (as : List Value) (m : xM) (Q : xQt) : Prop := match as with
  | [.ref o, .int a, .int a2, .int a3] => wp (fun _ _ _ _ => False) (fun _ => false) Q (some .int) (TT []) none i16 [.ref o, .int a, .int a2, .int a3, .null] [] m
  | _ => False
theorem s16 (o : Nat) (a : Int32) (a2 : Int32) (a3 : Int32) (m : xM) (Q : xQt) : S16 [.ref o, .int a, .int a2, .int a3] m Q = wp (fun _ _ _ _ => False) (fun _ => false) Q (some .int) (TT []) none i16 [.ref o, .int a, .int a2, .int a3, .null] [] m := rfl
theorem t16 {G : xG} : ∀ as m Q, S16 as m Q → Tri G 16 as m Q := by
  intro as m Q h
  match as, h with
  | [.ref o, .int a, .int a2, .int a3], h => exact tri_wp (T := TT []) (ls := [.ref o, .int a, .int a2, .int a3, .null]) TTn c16 (by decide +kernel) (rt0 := some .int) rfl rfl (Nat.le_of_ble_eq_true rfl) rfl h

def S12 (as : List Value) (m : xM) (Q : xQt) : Prop := match as with
  | [.ref o, .int a, .int a2, .int a3] => (o = 1) ∧ (a = nI (ix a) ∧ ix a < 8) ∧ (a3 = nI (ix a3) ∧ ix a3 ≤ 40) ∧ Q (none) (xa (xa (xa m 2 (upd (m.1 2) (ix a) a2)) 3 (upd (m.1 3) (ix a) a3)) 4 (va_cpy (fun _ => 0) (m.1 4) 0 (40 * ix a) (ix a3)))
  | _ => False
theorem s12 (o : Nat) (a : Int32) (a2 : Int32) (a3 : Int32) (m : xM) (Q : xQt) : S12 [.ref o, .int a, .int a2, .int a3] m Q = ((o = 1) ∧ (a = nI (ix a) ∧ ix a < 8) ∧ (a3 = nI (ix a3) ∧ ix a3 ≤ 40) ∧ Q (none) (xa (xa (xa m 2 (upd (m.1 2) (ix a) a2)) 3 (upd (m.1 3) (ix a) a3)) 4 (va_cpy (fun _ => 0) (m.1 4) 0 (40 * ix a) (ix a3)))) := rfl
theorem t12 {G : xG} : ∀ as m Q, S12 as m Q → Tri G 12 as m Q := by
  intro as m Q h
  match as, h with
  | [.ref o, .int a, .int a2, .int a3], h =>
    obtain ⟨rfl, ha, hn, h⟩ := h
    refine tri_vc (ls := [.ref 1, .int a, .int a2, .int a3, .null]) (by decide +kernel) rfl (Nat.le_of_ble_eq_true rfl) ?_
    obtain ⟨ha1, ha2⟩ := ha
    obtain ⟨hn1, hn2⟩ := hn
    generalize ix a = r at *
    generalize ix a3 = n at *
    subst ha1
    subst hn1
    refine vc_seq (pc1 := 17) (ls1 := [.ref 1, .int (nI r), .int a2, .int (nI n), .int 0]) (m1 := xa (xa m 2 (upd (m.1 2) r a2)) 3 (upd (m.1 3) r (nI n))) (vc_wp (T := TT []) TTn (fun p => p == 17) (rt0 := none) rfl c12 rfl ?_) ?_
    · simp (disch := omega) only [i12, wp_iinc, wpE0, wpE1, wpE2, wpE3, wpE4, wpE5, wpJ, okS, lt4S, popR, litS, Int32.reduceLT, Int32.reduceLE, List.getElem?_cons_zero, List.getElem?_cons_succ, Bool.false_eq_true, ↓reduceIte, Nat.reduceMod, Nat.reduceDiv, Nat.reduceAdd, Nat.reduceSub, Nat.reduceMul, Nat.reduceLeDiff, Nat.reduceEqDiff, Nat.reduceBEq, Int.reduceToNat, Int.reduceAdd, Int32.reduceOfInt, Int64.reduceOfInt, Int32.reduceToNatClampNeg, Int32.reduceOfNat, Bool.or_self, Bool.or_false, Bool.false_or, Bool.true_or, Bool.or_true, true_and, and_true, false_and, and_false, List.set_cons_zero, List.set_cons_succ, List.take_succ_cons, List.take_zero, List.drop_succ_cons, List.drop_zero, List.reverse_cons, List.reverse_nil, List.nil_append, List.cons_append, List.length_cons, List.length_nil, Option.toList_some, Option.toList_none, not_true_eq_false, not_false_eq_true, forall_const, true_implies, false_implies, nrw, TTS, shO, xa_1, xa_2, xa_xa, upd_at, updU, linS, nI_add, clN, inN, Nat.reduceEqDiff, ↓reduceIte, subS, not_true_eq_false, not_false_eq_true, and_true, true_and, and_false, false_and, and_self, or_true, true_or, or_false, false_or, ↓reduceIte, if_true, if_false, eq_self]
    have e0 : xa (xa (xa m 2 (upd (m.1 2) r a2)) 3 (upd (m.1 3) r (nI n))) 4 (va_cpy (fun _ => 0) (m.1 4) 0 (40 * r) 0) = xa (xa m 2 (upd (m.1 2) r a2)) 3 (upd (m.1 3) r (nI n)) := by rw [cpy_0]; exact xa_id (xa (xa m 2 (upd (m.1 2) r a2)) 3 (upd (m.1 3) r (nI n))) 4
    rw [← e0]
    refine vc_for n (fun i => [.ref 1, .int (nI r), .int a2, .int (nI n), .int (nI i)]) (fun i => xa (xa (xa m 2 (upd (m.1 2) r a2)) 3 (upd (m.1 3) r (nI n))) 4 (va_cpy (fun _ => 0) (m.1 4) 0 (40 * r) i)) (fun i hi => ?_) ?_
    · refine vc_wp (T := TT []) TTn (fun _ => false) (rt0 := none) rfl (ckl_drop 12 c12) rfl ?_
      have hi2 : ¬ nI n ≤ nI i := nI_ge hi (by omega)
      have es := cpy_s (fun _ => 0) (m.1 4) 0 (40 * r) i
      simp only [Nat.mul_comm 40 r] at es ⊢
      simp (disch := omega) only [List.drop, i12, wp_iinc, wpE0, wpE1, wpE2, wpE3, wpE4, wpE5, wpJ, okS, lt4S, popR, litS, Int32.reduceLT, Int32.reduceLE, List.getElem?_cons_zero, List.getElem?_cons_succ, Bool.false_eq_true, ↓reduceIte, Nat.reduceMod, Nat.reduceDiv, Nat.reduceAdd, Nat.reduceSub, Nat.reduceMul, Nat.reduceLeDiff, Nat.reduceEqDiff, Nat.reduceBEq, Int.reduceToNat, Int.reduceAdd, Int32.reduceOfInt, Int64.reduceOfInt, Int32.reduceToNatClampNeg, Int32.reduceOfNat, Bool.or_self, Bool.or_false, Bool.false_or, Bool.true_or, Bool.or_true, true_and, and_true, false_and, and_false, List.set_cons_zero, List.set_cons_succ, List.take_succ_cons, List.take_zero, List.drop_succ_cons, List.drop_zero, List.reverse_cons, List.reverse_nil, List.nil_append, List.cons_append, List.length_cons, List.length_nil, Option.toList_some, Option.toList_none, not_true_eq_false, not_false_eq_true, forall_const, true_implies, false_implies, nrw, TTS, shO, xa_1, xa_2, xa_xa, upd_at, updU, linS, nI_add, clN, inN, Nat.reduceEqDiff, ↓reduceIte, subS, hi2, nI_1, es, not_true_eq_false, not_false_eq_true, and_true, true_and, and_false, false_and, and_self, or_true, true_or, or_false, false_or, ↓reduceIte, if_true, if_false, eq_self]
    · refine vc_wp (T := TT []) TTn (fun _ => false) (rt0 := none) rfl (ckl_drop 12 c12) rfl ?_
      have hi2 : nI n ≤ nI n := Int32.le_refl _
      simp (disch := omega) only [List.drop, i12, wp_iinc, wpE0, wpE1, wpE2, wpE3, wpE4, wpE5, wpJ, okS, lt4S, popR, litS, Int32.reduceLT, Int32.reduceLE, List.getElem?_cons_zero, List.getElem?_cons_succ, Bool.false_eq_true, ↓reduceIte, Nat.reduceMod, Nat.reduceDiv, Nat.reduceAdd, Nat.reduceSub, Nat.reduceMul, Nat.reduceLeDiff, Nat.reduceEqDiff, Nat.reduceBEq, Int.reduceToNat, Int.reduceAdd, Int32.reduceOfInt, Int64.reduceOfInt, Int32.reduceToNatClampNeg, Int32.reduceOfNat, Bool.or_self, Bool.or_false, Bool.false_or, Bool.true_or, Bool.or_true, true_and, and_true, false_and, and_false, List.set_cons_zero, List.set_cons_succ, List.take_succ_cons, List.take_zero, List.drop_succ_cons, List.drop_zero, List.reverse_cons, List.reverse_nil, List.nil_append, List.cons_append, List.length_cons, List.length_nil, Option.toList_some, Option.toList_none, not_true_eq_false, not_false_eq_true, forall_const, true_implies, false_implies, nrw, TTS, shO, hi2, not_true_eq_false, not_false_eq_true, and_true, true_and, and_false, false_and, and_self, or_true, true_or, or_false, false_or, ↓reduceIte, if_true, if_false, eq_self]
      exact h

