def mkk (t : Nat) : Nat := if t = 4 then 0 else t + 1
def tpM (T : Tp) (m : xM) : Prop := T.2 ≤ 400 ∧ ∀ i, i < T.2 → m.1 93 i = nI (T.1 i) ∧ T.1 i < 256
def mNX (T : Tp) (c : Nat → Int32) (a : Nat) : Prop := c 13 = nI (tE T a) ∧ c 14 = nI (mkk (tK T a)) ∧ c 15 = nI (tS T a) ∧ c 16 = nI (tE T a)
theorem qx_eq {x c : Nat} (hx : x < 256) (hc : c < 256) : (nI x = nI c) = (x = c) := propext (nI_eq (by omega) (by omega))
theorem qx_lo {x c d : Nat} (hx : x < 256) (hc : c < 256) (hd : d < 256) : (nI c ≤ nI x ∧ nI x ≤ nI d) = (c ≤ x ∧ x ≤ d) := by
  rw [nI_leI (by omega) (by omega), nI_leI (by omega) (by omega)]
theorem qx_no {x : Nat} (hx : x < 256) : ¬ nI x = -1000000 := fun y => by
  have h := nI_toInt (n := x) (by omega)
  rw [y] at h
  have h : (-1000000 : Int) = x := h
  omega
theorem m6 : ((-1000000 : Int32) = 32) = False ∧ ((-1000000 : Int32) = 10) = False ∧ ((-1000000 : Int32) = -1000000) = True ∧ (nI 97 ≤ (-1000000 : Int32)) = False ∧ (nI 48 ≤ (-1000000 : Int32)) = False := by decide

def S156 (as : List Value) (m : xM) (Q : xQt) : Prop := match as with
  | [.ref o, .int x] => wp (fun _ _ _ _ => False) (fun _ => false) Q (some .int) (TT []) none i156 [.ref o, .int x] [] m
  | _ => False
theorem s156 (o : Nat) (x : Int32) (m : xM) (Q : xQt) : S156 [.ref o, .int x] m Q = wp (fun _ _ _ _ => False) (fun _ => false) Q (some .int) (TT []) none i156 [.ref o, .int x] [] m := rfl
theorem t156 {G : xG} : ∀ as m Q, S156 as m Q → Tri G 156 as m Q := by
  intro as m Q h
  match as, h with
  | [.ref o, .int x], h => exact tri_wp (T := TT []) (ls := [.ref o, .int x]) TTn c156 (by decide +kernel) (rt0 := some .int) rfl rfl (Nat.le_of_ble_eq_true rfl) rfl h

theorem t155x {G : xG} {m : xM} {Q : xQt} {T : Tp} {a : Nat} (hT : tpM T m) (ha : a ≤ T.2) (h12 : m.1 86 12 = nI T.2) (h13 : m.1 86 13 = nI a) (hq : ∀ c', mNX T c' a → (∀ i, ¬ (13 ≤ i ∧ i ≤ 16) → c' i = m.1 86 i) → Q none (xa m 86 c')) : Tri G 155 [.ref 86] m Q := by
  have hT2 := hT.1
  obtain ⟨sb1, sb2⟩ := tS_b ha
  have e0 : (xa m 86 (upd (m.1 86) 13 (nI (a + 0)))) = m := by rw [Nat.add_zero, upd_id h13]; exact xa_id m 86
  refine tri_vc (ls := [.ref 86, .null]) (by decide +kernel) rfl (Nat.le_of_ble_eq_true rfl) ?_
  refine vc_seq (pc1 := 39) (ls1 := [.ref 86, .null]) (m1 := (xa m 86 (upd (m.1 86) 13 (nI (tS T a))))) ?_ ?_
  · rw [← e0]
    refine vc_findM (T.2 - a) (fun i => [.ref 86, .null]) (fun i => (xa m 86 (upd (m.1 86) 13 (nI (a + i))))) (fun i => ¬ tsp T (a + i)) (fun i hi hp hf => ?_) (fun i hi hp => ?_) (fun hf hk => ?_)
    · have hi2 : ¬ nI T.2 ≤ nI (a + i) := nI_ge (by omega) (by omega)
      have hi3 : nI (a + i) < nI T.2 := Int32.not_le.mp hi2
      have hin : vp_in (nI (a + i)) 400 := xin_nI (by omega) (by omega)
      obtain ⟨hb, hb2⟩ := hT.2 (a + i) (by omega)
      have q32 : (nI (T.1 (a + i)) = 32) = (T.1 (a + i) = 32) := qx_eq (c := 32) hb2 (by omega)
      have q10 : (nI (T.1 (a + i)) = 10) = (T.1 (a + i) = 10) := qx_eq (c := 10) hb2 (by omega)
      have n32 : ¬ T.1 (a + i) = 32 := fun y => hp (Or.inl y)
      have n10 : ¬ T.1 (a + i) = 10 := fun y => hp (Or.inr y)
      have es : tS T a = a + i := by unfold tS; rw [hf]
      rw [es]
      refine vc_wp (T := TT [(156, S156), (157, S157b), (158, S158b)]) (TTc t156 (TTc t157b (TTc t158b TTn))) (fun p => p == 39) (rt0 := none) rfl (ckl_drop 0 c155) rfl ?_
      simp (disch := omega) only [List.drop, i155, wp_iinc, wpE0, wpE1, wpE2, wpE3, wpE4, wpE5, wpJ, okS, lt4S, popR, litS, Int32.reduceLT, Int32.reduceLE, List.getElem?_cons_zero, List.getElem?_cons_succ, Bool.false_eq_true, ↓reduceIte, Nat.reduceMod, Nat.reduceDiv, Nat.reduceAdd, Nat.reduceSub, Nat.reduceMul, Nat.reduceLeDiff, Nat.reduceEqDiff, Nat.reduceBEq, Int.reduceToNat, Int.reduceAdd, Int32.reduceOfInt, Int64.reduceOfInt, Int32.reduceToNatClampNeg, Int32.reduceOfNat, Bool.or_self, Bool.or_false, Bool.false_or, Bool.true_or, Bool.or_true, true_and, and_true, false_and, and_false, List.set_cons_zero, List.set_cons_succ, List.take_succ_cons, List.take_zero, List.drop_succ_cons, List.drop_zero, List.reverse_cons, List.reverse_nil, List.nil_append, List.cons_append, List.length_cons, List.length_nil, Option.toList_some, Option.toList_none, not_true_eq_false, not_false_eq_true, forall_const, true_implies, false_implies, nrw, TTS, shM, shO, and01, bI_0, bI_and, isRl, cmpS, toLS, toL_le, toL_lt, i2lS, inM, Int64.reduceLE, Int64.reduceLT, xa_1, xa_2, xa_xa, upd_at, updU, linS, nI_add, nI_s2, clN, inN, inLS, Nat.reduceEqDiff, ↓reduceIte, not_true_eq_false, not_false_eq_true, and_true, true_and, and_false, false_and, and_self, or_true, true_or, or_false, false_or, ↓reduceIte, if_true, if_false, eq_self, s156, i156, m6, h12, hi2, hi3, hin, hb, q32, q10, n32, n10, true_or, subS, nI_1, not_true_eq_false, not_false_eq_true, and_true, true_and, and_false, false_and, and_self, or_true, true_or, or_false, false_or, ↓reduceIte, if_true, if_false, eq_self]
    · rcases Classical.not_not.mp hp with n32 | n10
      · have hi2 : ¬ nI T.2 ≤ nI (a + i) := nI_ge (by omega) (by omega)
        have hi3 : nI (a + i) < nI T.2 := Int32.not_le.mp hi2
        have hin : vp_in (nI (a + i)) 400 := xin_nI (by omega) (by omega)
        obtain ⟨hb, hb2⟩ := hT.2 (a + i) (by omega)
        have q32 : (nI (T.1 (a + i)) = 32) = (T.1 (a + i) = 32) := qx_eq (c := 32) hb2 (by omega)
        have q10 : (nI (T.1 (a + i)) = 10) = (T.1 (a + i) = 10) := qx_eq (c := 10) hb2 (by omega)
        have n32 := eq_true n32
        refine vc_wp (T := TT [(156, S156), (157, S157b), (158, S158b)]) (TTc t156 (TTc t157b (TTc t158b TTn))) (fun p => p == 39) (rt0 := none) rfl (ckl_drop 0 c155) rfl ?_
        simp (disch := omega) only [List.drop, i155, wp_iinc, wpE0, wpE1, wpE2, wpE3, wpE4, wpE5, wpJ, okS, lt4S, popR, litS, Int32.reduceLT, Int32.reduceLE, List.getElem?_cons_zero, List.getElem?_cons_succ, Bool.false_eq_true, ↓reduceIte, Nat.reduceMod, Nat.reduceDiv, Nat.reduceAdd, Nat.reduceSub, Nat.reduceMul, Nat.reduceLeDiff, Nat.reduceEqDiff, Nat.reduceBEq, Int.reduceToNat, Int.reduceAdd, Int32.reduceOfInt, Int64.reduceOfInt, Int32.reduceToNatClampNeg, Int32.reduceOfNat, Bool.or_self, Bool.or_false, Bool.false_or, Bool.true_or, Bool.or_true, true_and, and_true, false_and, and_false, List.set_cons_zero, List.set_cons_succ, List.take_succ_cons, List.take_zero, List.drop_succ_cons, List.drop_zero, List.reverse_cons, List.reverse_nil, List.nil_append, List.cons_append, List.length_cons, List.length_nil, Option.toList_some, Option.toList_none, not_true_eq_false, not_false_eq_true, forall_const, true_implies, false_implies, nrw, TTS, shM, shO, and01, bI_0, bI_and, isRl, cmpS, toLS, toL_le, toL_lt, i2lS, inM, Int64.reduceLE, Int64.reduceLT, xa_1, xa_2, xa_xa, upd_at, updU, linS, nI_add, nI_s2, clN, inN, inLS, Nat.reduceEqDiff, ↓reduceIte, not_true_eq_false, not_false_eq_true, and_true, true_and, and_false, false_and, and_self, or_true, true_or, or_false, false_or, ↓reduceIte, if_true, if_false, eq_self, s156, i156, m6, h12, hi2, hi3, hin, hb, q32, q10, n32, Nat.add_assoc, true_or, subS, nI_1, not_true_eq_false, not_false_eq_true, and_true, true_and, and_false, false_and, and_self, or_true, true_or, or_false, false_or, ↓reduceIte, if_true, if_false, eq_self]
      · have hi2 : ¬ nI T.2 ≤ nI (a + i) := nI_ge (by omega) (by omega)
        have hi3 : nI (a + i) < nI T.2 := Int32.not_le.mp hi2
        have hin : vp_in (nI (a + i)) 400 := xin_nI (by omega) (by omega)
        obtain ⟨hb, hb2⟩ := hT.2 (a + i) (by omega)
        have q32 : (nI (T.1 (a + i)) = 32) = (T.1 (a + i) = 32) := qx_eq (c := 32) hb2 (by omega)
        have q10 : (nI (T.1 (a + i)) = 10) = (T.1 (a + i) = 10) := qx_eq (c := 10) hb2 (by omega)
        have n32 : ¬ T.1 (a + i) = 32 := by omega
        have n10 := eq_true n10
        refine vc_wp (T := TT [(156, S156), (157, S157b), (158, S158b)]) (TTc t156 (TTc t157b (TTc t158b TTn))) (fun p => p == 39) (rt0 := none) rfl (ckl_drop 0 c155) rfl ?_
        simp (disch := omega) only [List.drop, i155, wp_iinc, wpE0, wpE1, wpE2, wpE3, wpE4, wpE5, wpJ, okS, lt4S, popR, litS, Int32.reduceLT, Int32.reduceLE, List.getElem?_cons_zero, List.getElem?_cons_succ, Bool.false_eq_true, ↓reduceIte, Nat.reduceMod, Nat.reduceDiv, Nat.reduceAdd, Nat.reduceSub, Nat.reduceMul, Nat.reduceLeDiff, Nat.reduceEqDiff, Nat.reduceBEq, Int.reduceToNat, Int.reduceAdd, Int32.reduceOfInt, Int64.reduceOfInt, Int32.reduceToNatClampNeg, Int32.reduceOfNat, Bool.or_self, Bool.or_false, Bool.false_or, Bool.true_or, Bool.or_true, true_and, and_true, false_and, and_false, List.set_cons_zero, List.set_cons_succ, List.take_succ_cons, List.take_zero, List.drop_succ_cons, List.drop_zero, List.reverse_cons, List.reverse_nil, List.nil_append, List.cons_append, List.length_cons, List.length_nil, Option.toList_some, Option.toList_none, not_true_eq_false, not_false_eq_true, forall_const, true_implies, false_implies, nrw, TTS, shM, shO, and01, bI_0, bI_and, isRl, cmpS, toLS, toL_le, toL_lt, i2lS, inM, Int64.reduceLE, Int64.reduceLT, xa_1, xa_2, xa_xa, upd_at, updU, linS, nI_add, nI_s2, clN, inN, inLS, Nat.reduceEqDiff, ↓reduceIte, not_true_eq_false, not_false_eq_true, and_true, true_and, and_false, false_and, and_self, or_true, true_or, or_false, false_or, ↓reduceIte, if_true, if_false, eq_self, s156, i156, m6, h12, hi2, hi3, hin, hb, q32, q10, n32, n10, Nat.add_assoc, true_or, subS, nI_1, not_true_eq_false, not_false_eq_true, and_true, true_and, and_false, false_and, and_self, or_true, true_or, or_false, false_or, ↓reduceIte, if_true, if_false, eq_self]
    · have es : tS T a = a + (T.2 - a) := by unfold tS; rw [hf]
      rw [es]
      have hi2 : nI T.2 ≤ nI (a + (T.2 - a)) := nI_le (by omega) (by omega)
      have hi3 : ¬ nI (a + (T.2 - a)) < nI T.2 := Int32.not_lt.mpr hi2
      refine vc_wp (T := TT [(156, S156), (157, S157b), (158, S158b)]) (TTc t156 (TTc t157b (TTc t158b TTn))) (fun p => p == 39) (rt0 := none) rfl (ckl_drop 0 c155) rfl ?_
      simp (disch := omega) only [List.drop, i155, wp_iinc, wpE0, wpE1, wpE2, wpE3, wpE4, wpE5, wpJ, okS, lt4S, popR, litS, Int32.reduceLT, Int32.reduceLE, List.getElem?_cons_zero, List.getElem?_cons_succ, Bool.false_eq_true, ↓reduceIte, Nat.reduceMod, Nat.reduceDiv, Nat.reduceAdd, Nat.reduceSub, Nat.reduceMul, Nat.reduceLeDiff, Nat.reduceEqDiff, Nat.reduceBEq, Int.reduceToNat, Int.reduceAdd, Int32.reduceOfInt, Int64.reduceOfInt, Int32.reduceToNatClampNeg, Int32.reduceOfNat, Bool.or_self, Bool.or_false, Bool.false_or, Bool.true_or, Bool.or_true, true_and, and_true, false_and, and_false, List.set_cons_zero, List.set_cons_succ, List.take_succ_cons, List.take_zero, List.drop_succ_cons, List.drop_zero, List.reverse_cons, List.reverse_nil, List.nil_append, List.cons_append, List.length_cons, List.length_nil, Option.toList_some, Option.toList_none, not_true_eq_false, not_false_eq_true, forall_const, true_implies, false_implies, nrw, TTS, shM, shO, and01, bI_0, bI_and, isRl, cmpS, toLS, toL_le, toL_lt, i2lS, inM, Int64.reduceLE, Int64.reduceLT, xa_1, xa_2, xa_xa, upd_at, updU, linS, nI_add, nI_s2, clN, inN, inLS, Nat.reduceEqDiff, ↓reduceIte, not_true_eq_false, not_false_eq_true, and_true, true_and, and_false, false_and, and_self, or_true, true_or, or_false, false_or, ↓reduceIte, if_true, if_false, eq_self, s156, i156, m6, h12, hi2, hi3, true_or, subS, nI_1, not_true_eq_false, not_false_eq_true, and_true, true_and, and_false, false_and, and_self, or_true, true_or, or_false, false_or, ↓reduceIte, if_true, if_false, eq_self]
  by_cases h0 : T.2 ≤ tS T a
  · have es : tS T a = T.2 := by omega
    have c0 : nI T.2 ≤ nI (tS T a) := nI_le h0 (by omega)
    have c0' : ¬ nI (tS T a) < nI T.2 := Int32.not_lt.mpr c0
    obtain ⟨k1, k2⟩ := tK_0 h0
    refine vc_wp (T := TT [(156, S156), (157, S157b), (158, S158b)]) (TTc t156 (TTc t157b (TTc t158b TTn))) (fun _ => false) (rt0 := none) rfl (ckl_drop 19 c155) rfl ?_
    simp (disch := omega) only [List.drop, i155, wp_iinc, wpE0, wpE1, wpE2, wpE3, wpE4, wpE5, wpJ, okS, lt4S, popR, litS, Int32.reduceLT, Int32.reduceLE, List.getElem?_cons_zero, List.getElem?_cons_succ, Bool.false_eq_true, ↓reduceIte, Nat.reduceMod, Nat.reduceDiv, Nat.reduceAdd, Nat.reduceSub, Nat.reduceMul, Nat.reduceLeDiff, Nat.reduceEqDiff, Nat.reduceBEq, Int.reduceToNat, Int.reduceAdd, Int32.reduceOfInt, Int64.reduceOfInt, Int32.reduceToNatClampNeg, Int32.reduceOfNat, Bool.or_self, Bool.or_false, Bool.false_or, Bool.true_or, Bool.or_true, true_and, and_true, false_and, and_false, List.set_cons_zero, List.set_cons_succ, List.take_succ_cons, List.take_zero, List.drop_succ_cons, List.drop_zero, List.reverse_cons, List.reverse_nil, List.nil_append, List.cons_append, List.length_cons, List.length_nil, Option.toList_some, Option.toList_none, not_true_eq_false, not_false_eq_true, forall_const, true_implies, false_implies, nrw, TTS, shM, shO, and01, bI_0, bI_and, isRl, cmpS, toLS, toL_le, toL_lt, i2lS, inM, Int64.reduceLE, Int64.reduceLT, xa_1, xa_2, xa_xa, upd_at, updU, linS, nI_add, nI_s2, clN, inN, inLS, Nat.reduceEqDiff, ↓reduceIte, not_true_eq_false, not_false_eq_true, and_true, true_and, and_false, false_and, and_self, or_true, true_or, or_false, false_or, ↓reduceIte, if_true, if_false, eq_self, s156, i156, m6, h12, c0, c0', subS, nI_1, not_true_eq_false, not_false_eq_true, and_true, true_and, and_false, false_and, and_self, or_true, true_or, or_false, false_or, ↓reduceIte, if_true, if_false, eq_self]
    refine hq _ ⟨?_, ?_, ?_, ?_⟩ (fun i hi => by simp (disch := omega) only [upd_ne])
    · rw [k2]; simp only [upd_at, Nat.reduceEqDiff, ↓reduceIte]
    · rw [k1]; simp only [upd_at, Nat.reduceEqDiff, ↓reduceIte]; first | rfl | (rw [rfl]; rfl)
    · simp only [upd_at, Nat.reduceEqDiff, ↓reduceIte]
    · rw [k2]; simp only [upd_at, Nat.reduceEqDiff, ↓reduceIte]
  have c0 : ¬ nI T.2 ≤ nI (tS T a) := nI_ge (by omega) (by omega)
  have c0' : nI (tS T a) < nI T.2 := Int32.not_le.mp c0
  have hin0 : vp_in (nI (tS T a)) 400 := xin_nI (by omega) (by omega)
  obtain ⟨hb0, hb02⟩ := hT.2 (tS T a) (by omega)
  have qL : (nI 97 ≤ nI (T.1 (tS T a)) ∧ nI (T.1 (tS T a)) ≤ nI 122) = tle T (tS T a) := qx_lo hb02 (by omega) (by omega)
  have qF : (nI 48 ≤ nI (T.1 (tS T a)) ∧ nI (T.1 (tS T a)) ≤ nI 57) = tfg T (tS T a) := qx_lo hb02 (by omega) (by omega)
  by_cases h1 : tle T (tS T a)
  · obtain ⟨k1, k2⟩ := tK_1 h0 h1
    have h1' := h1
    rw [← qL] at h1'
    refine vc_seq (pc1 := 77) (ls1 := [.ref 86, .int (nI (T.1 (tS T a)))]) (m1 := (xa m 86 (upd (upd (m.1 86) 13 (nI (tS T a))) 15 (nI (tS T a))))) (vc_wp (T := TT [(156, S156), (157, S157b), (158, S158b)]) (TTc t156 (TTc t157b (TTc t158b TTn))) (fun p => p == 77) (rt0 := none) rfl (ckl_drop 19 c155) rfl ?_) ?_
    · simp (disch := omega) only [List.drop, i155, wp_iinc, wpE0, wpE1, wpE2, wpE3, wpE4, wpE5, wpJ, okS, lt4S, popR, litS, Int32.reduceLT, Int32.reduceLE, List.getElem?_cons_zero, List.getElem?_cons_succ, Bool.false_eq_true, ↓reduceIte, Nat.reduceMod, Nat.reduceDiv, Nat.reduceAdd, Nat.reduceSub, Nat.reduceMul, Nat.reduceLeDiff, Nat.reduceEqDiff, Nat.reduceBEq, Int.reduceToNat, Int.reduceAdd, Int32.reduceOfInt, Int64.reduceOfInt, Int32.reduceToNatClampNeg, Int32.reduceOfNat, Bool.or_self, Bool.or_false, Bool.false_or, Bool.true_or, Bool.or_true, true_and, and_true, false_and, and_false, List.set_cons_zero, List.set_cons_succ, List.take_succ_cons, List.take_zero, List.drop_succ_cons, List.drop_zero, List.reverse_cons, List.reverse_nil, List.nil_append, List.cons_append, List.length_cons, List.length_nil, Option.toList_some, Option.toList_none, not_true_eq_false, not_false_eq_true, forall_const, true_implies, false_implies, nrw, TTS, shM, shO, and01, bI_0, bI_and, isRl, cmpS, toLS, toL_le, toL_lt, i2lS, inM, Int64.reduceLE, Int64.reduceLT, xa_1, xa_2, xa_xa, upd_at, updU, linS, nI_add, nI_s2, clN, inN, inLS, Nat.reduceEqDiff, ↓reduceIte, not_true_eq_false, not_false_eq_true, and_true, true_and, and_false, false_and, and_self, or_true, true_or, or_false, false_or, ↓reduceIte, if_true, if_false, eq_self, s156, i156, m6, h12, c0, c0', hin0, hb0, qx_no hb02, s157b, h1', subS, nI_1, not_true_eq_false, not_false_eq_true, and_true, true_and, and_false, false_and, and_self, or_true, true_or, or_false, false_or, ↓reduceIte, if_true, if_false, eq_self]
    have eB : (xa m 86 (upd (upd (upd (m.1 86) 13 (nI (tS T a))) 15 (nI (tS T a))) 13 (nI (tS T a + 0)))) = (xa m 86 (upd (upd (m.1 86) 13 (nI (tS T a))) 15 (nI (tS T a)))) := by rw [Nat.add_zero, upd_id (show (upd (upd (m.1 86) 13 (nI (tS T a))) 15 (nI (tS T a))) 13 = nI (tS T a) from rfl)]
    rw [← eB]
    refine vc_findM (T.2 - tS T a) (fun i => [.ref 86, .int (nI (T.1 (tS T a)))]) (fun i => (xa m 86 (upd (upd (upd (m.1 86) 13 (nI (tS T a))) 15 (nI (tS T a))) 13 (nI (tS T a + i))))) (fun i => ¬ tle T (tS T a + i)) (fun i hi hp hf => ?_) (fun i hi hp => ?_) (fun hf hk => ?_)
    · have hi2 : ¬ nI T.2 ≤ nI (tS T a + i) := nI_ge (by omega) (by omega)
      have hi3 : nI (tS T a + i) < nI T.2 := Int32.not_le.mp hi2
      have hin : vp_in (nI (tS T a + i)) 400 := xin_nI (by omega) (by omega)
      obtain ⟨hb, hb2⟩ := hT.2 (tS T a + i) (by omega)
      have hp2 : ¬ (nI 97 ≤ nI (T.1 (tS T a + i)) ∧ nI (T.1 (tS T a + i)) ≤ nI 122) := by rw [qx_lo hb2 (by omega) (by omega)]; exact hp
      rw [show tL T (tS T a) = tS T a + i from by unfold tL; rw [hf]] at k2
      refine vc_wp (T := TT [(156, S156), (157, S157b), (158, S158b)]) (TTc t156 (TTc t157b (TTc t158b TTn))) (fun _ => false) (rt0 := none) rfl (ckl_drop 38 c155) rfl ?_
      simp (disch := omega) only [List.drop, i155, wp_iinc, wpE0, wpE1, wpE2, wpE3, wpE4, wpE5, wpJ, okS, lt4S, popR, litS, Int32.reduceLT, Int32.reduceLE, List.getElem?_cons_zero, List.getElem?_cons_succ, Bool.false_eq_true, ↓reduceIte, Nat.reduceMod, Nat.reduceDiv, Nat.reduceAdd, Nat.reduceSub, Nat.reduceMul, Nat.reduceLeDiff, Nat.reduceEqDiff, Nat.reduceBEq, Int.reduceToNat, Int.reduceAdd, Int32.reduceOfInt, Int64.reduceOfInt, Int32.reduceToNatClampNeg, Int32.reduceOfNat, Bool.or_self, Bool.or_false, Bool.false_or, Bool.true_or, Bool.or_true, true_and, and_true, false_and, and_false, List.set_cons_zero, List.set_cons_succ, List.take_succ_cons, List.take_zero, List.drop_succ_cons, List.drop_zero, List.reverse_cons, List.reverse_nil, List.nil_append, List.cons_append, List.length_cons, List.length_nil, Option.toList_some, Option.toList_none, not_true_eq_false, not_false_eq_true, forall_const, true_implies, false_implies, nrw, TTS, shM, shO, and01, bI_0, bI_and, isRl, cmpS, toLS, toL_le, toL_lt, i2lS, inM, Int64.reduceLE, Int64.reduceLT, xa_1, xa_2, xa_xa, upd_at, updU, linS, nI_add, nI_s2, clN, inN, inLS, Nat.reduceEqDiff, ↓reduceIte, not_true_eq_false, not_false_eq_true, and_true, true_and, and_false, false_and, and_self, or_true, true_or, or_false, false_or, ↓reduceIte, if_true, if_false, eq_self, s156, i156, m6, h12, hi2, hi3, hin, hb, s157b, hp2, subS, nI_1, not_true_eq_false, not_false_eq_true, and_true, true_and, and_false, false_and, and_self, or_true, true_or, or_false, false_or, ↓reduceIte, if_true, if_false, eq_self]
      refine hq _ ⟨?_, ?_, ?_, ?_⟩ (fun i hi => by simp (disch := omega) only [upd_ne])
      · rw [k2]; simp only [upd_at, Nat.reduceEqDiff, ↓reduceIte]
      · rw [k1]; simp only [upd_at, Nat.reduceEqDiff, ↓reduceIte]; first | rfl | (rw [rfl]; rfl)
      · simp only [upd_at, Nat.reduceEqDiff, ↓reduceIte]
      · rw [k2]; simp only [upd_at, Nat.reduceEqDiff, ↓reduceIte]
    · have hi2 : ¬ nI T.2 ≤ nI (tS T a + i) := nI_ge (by omega) (by omega)
      have hi3 : nI (tS T a + i) < nI T.2 := Int32.not_le.mp hi2
      have hin : vp_in (nI (tS T a + i)) 400 := xin_nI (by omega) (by omega)
      obtain ⟨hb, hb2⟩ := hT.2 (tS T a + i) (by omega)
      have hp2 : nI 97 ≤ nI (T.1 (tS T a + i)) ∧ nI (T.1 (tS T a + i)) ≤ nI 122 := by rw [qx_lo hb2 (by omega) (by omega)]; exact Classical.not_not.mp hp
      refine vc_wp (T := TT [(156, S156), (157, S157b), (158, S158b)]) (TTc t156 (TTc t157b (TTc t158b TTn))) (fun _ => false) (rt0 := none) rfl (ckl_drop 38 c155) rfl ?_
      simp (disch := omega) only [List.drop, i155, wp_iinc, wpE0, wpE1, wpE2, wpE3, wpE4, wpE5, wpJ, okS, lt4S, popR, litS, Int32.reduceLT, Int32.reduceLE, List.getElem?_cons_zero, List.getElem?_cons_succ, Bool.false_eq_true, ↓reduceIte, Nat.reduceMod, Nat.reduceDiv, Nat.reduceAdd, Nat.reduceSub, Nat.reduceMul, Nat.reduceLeDiff, Nat.reduceEqDiff, Nat.reduceBEq, Int.reduceToNat, Int.reduceAdd, Int32.reduceOfInt, Int64.reduceOfInt, Int32.reduceToNatClampNeg, Int32.reduceOfNat, Bool.or_self, Bool.or_false, Bool.false_or, Bool.true_or, Bool.or_true, true_and, and_true, false_and, and_false, List.set_cons_zero, List.set_cons_succ, List.take_succ_cons, List.take_zero, List.drop_succ_cons, List.drop_zero, List.reverse_cons, List.reverse_nil, List.nil_append, List.cons_append, List.length_cons, List.length_nil, Option.toList_some, Option.toList_none, not_true_eq_false, not_false_eq_true, forall_const, true_implies, false_implies, nrw, TTS, shM, shO, and01, bI_0, bI_and, isRl, cmpS, toLS, toL_le, toL_lt, i2lS, inM, Int64.reduceLE, Int64.reduceLT, xa_1, xa_2, xa_xa, upd_at, updU, linS, nI_add, nI_s2, clN, inN, inLS, Nat.reduceEqDiff, ↓reduceIte, not_true_eq_false, not_false_eq_true, and_true, true_and, and_false, false_and, and_self, or_true, true_or, or_false, false_or, ↓reduceIte, if_true, if_false, eq_self, s156, i156, m6, h12, hi2, hi3, hin, hb, s157b, hp2, Nat.add_assoc, subS, nI_1, not_true_eq_false, not_false_eq_true, and_true, true_and, and_false, false_and, and_self, or_true, true_or, or_false, false_or, ↓reduceIte, if_true, if_false, eq_self]
    · have hi2 : nI T.2 ≤ nI (tS T a + (T.2 - tS T a)) := nI_le (by omega) (by omega)
      have hi3 : ¬ nI (tS T a + (T.2 - tS T a)) < nI T.2 := Int32.not_lt.mpr hi2
      rw [show tL T (tS T a) = tS T a + (T.2 - tS T a) from by unfold tL; rw [hf]] at k2
      refine vc_wp (T := TT [(156, S156), (157, S157b), (158, S158b)]) (TTc t156 (TTc t157b (TTc t158b TTn))) (fun _ => false) (rt0 := none) rfl (ckl_drop 38 c155) rfl ?_
      simp (disch := omega) only [List.drop, i155, wp_iinc, wpE0, wpE1, wpE2, wpE3, wpE4, wpE5, wpJ, okS, lt4S, popR, litS, Int32.reduceLT, Int32.reduceLE, List.getElem?_cons_zero, List.getElem?_cons_succ, Bool.false_eq_true, ↓reduceIte, Nat.reduceMod, Nat.reduceDiv, Nat.reduceAdd, Nat.reduceSub, Nat.reduceMul, Nat.reduceLeDiff, Nat.reduceEqDiff, Nat.reduceBEq, Int.reduceToNat, Int.reduceAdd, Int32.reduceOfInt, Int64.reduceOfInt, Int32.reduceToNatClampNeg, Int32.reduceOfNat, Bool.or_self, Bool.or_false, Bool.false_or, Bool.true_or, Bool.or_true, true_and, and_true, false_and, and_false, List.set_cons_zero, List.set_cons_succ, List.take_succ_cons, List.take_zero, List.drop_succ_cons, List.drop_zero, List.reverse_cons, List.reverse_nil, List.nil_append, List.cons_append, List.length_cons, List.length_nil, Option.toList_some, Option.toList_none, not_true_eq_false, not_false_eq_true, forall_const, true_implies, false_implies, nrw, TTS, shM, shO, and01, bI_0, bI_and, isRl, cmpS, toLS, toL_le, toL_lt, i2lS, inM, Int64.reduceLE, Int64.reduceLT, xa_1, xa_2, xa_xa, upd_at, updU, linS, nI_add, nI_s2, clN, inN, inLS, Nat.reduceEqDiff, ↓reduceIte, not_true_eq_false, not_false_eq_true, and_true, true_and, and_false, false_and, and_self, or_true, true_or, or_false, false_or, ↓reduceIte, if_true, if_false, eq_self, s156, i156, m6, h12, hi2, hi3, s157b, false_and, subS, nI_1, not_true_eq_false, not_false_eq_true, and_true, true_and, and_false, false_and, and_self, or_true, true_or, or_false, false_or, ↓reduceIte, if_true, if_false, eq_self]
      refine hq _ ⟨?_, ?_, ?_, ?_⟩ (fun i hi => by simp (disch := omega) only [upd_ne])
      · rw [k2]; simp only [upd_at, Nat.reduceEqDiff, ↓reduceIte]
      · rw [k1]; simp only [upd_at, Nat.reduceEqDiff, ↓reduceIte]; first | rfl | (rw [rfl]; rfl)
      · simp only [upd_at, Nat.reduceEqDiff, ↓reduceIte]
      · rw [k2]; simp only [upd_at, Nat.reduceEqDiff, ↓reduceIte]
  by_cases h2 : tfg T (tS T a)
  · obtain ⟨k1, k2⟩ := tK_2 h0 h1 h2
    have h1' := h1
    rw [← qL] at h1'
    have h2' := h2
    rw [← qF] at h2'
    refine vc_seq (pc1 := 119) (ls1 := [.ref 86, .int (nI (T.1 (tS T a)))]) (m1 := (xa m 86 (upd (upd (m.1 86) 13 (nI (tS T a))) 15 (nI (tS T a))))) (vc_wp (T := TT [(156, S156), (157, S157b), (158, S158b)]) (TTc t156 (TTc t157b (TTc t158b TTn))) (fun p => p == 119) (rt0 := none) rfl (ckl_drop 19 c155) rfl ?_) ?_
    · simp (disch := omega) only [List.drop, i155, wp_iinc, wpE0, wpE1, wpE2, wpE3, wpE4, wpE5, wpJ, okS, lt4S, popR, litS, Int32.reduceLT, Int32.reduceLE, List.getElem?_cons_zero, List.getElem?_cons_succ, Bool.false_eq_true, ↓reduceIte, Nat.reduceMod, Nat.reduceDiv, Nat.reduceAdd, Nat.reduceSub, Nat.reduceMul, Nat.reduceLeDiff, Nat.reduceEqDiff, Nat.reduceBEq, Int.reduceToNat, Int.reduceAdd, Int32.reduceOfInt, Int64.reduceOfInt, Int32.reduceToNatClampNeg, Int32.reduceOfNat, Bool.or_self, Bool.or_false, Bool.false_or, Bool.true_or, Bool.or_true, true_and, and_true, false_and, and_false, List.set_cons_zero, List.set_cons_succ, List.take_succ_cons, List.take_zero, List.drop_succ_cons, List.drop_zero, List.reverse_cons, List.reverse_nil, List.nil_append, List.cons_append, List.length_cons, List.length_nil, Option.toList_some, Option.toList_none, not_true_eq_false, not_false_eq_true, forall_const, true_implies, false_implies, nrw, TTS, shM, shO, and01, bI_0, bI_and, isRl, cmpS, toLS, toL_le, toL_lt, i2lS, inM, Int64.reduceLE, Int64.reduceLT, xa_1, xa_2, xa_xa, upd_at, updU, linS, nI_add, nI_s2, clN, inN, inLS, Nat.reduceEqDiff, ↓reduceIte, not_true_eq_false, not_false_eq_true, and_true, true_and, and_false, false_and, and_self, or_true, true_or, or_false, false_or, ↓reduceIte, if_true, if_false, eq_self, s156, i156, m6, h12, c0, c0', hin0, hb0, qx_no hb02, s157b, s158b, h1', h2', subS, nI_1, not_true_eq_false, not_false_eq_true, and_true, true_and, and_false, false_and, and_self, or_true, true_or, or_false, false_or, ↓reduceIte, if_true, if_false, eq_self]
    have eB : (xa m 86 (upd (upd (upd (m.1 86) 13 (nI (tS T a))) 15 (nI (tS T a))) 13 (nI (tS T a + 0)))) = (xa m 86 (upd (upd (m.1 86) 13 (nI (tS T a))) 15 (nI (tS T a)))) := by rw [Nat.add_zero, upd_id (show (upd (upd (m.1 86) 13 (nI (tS T a))) 15 (nI (tS T a))) 13 = nI (tS T a) from rfl)]
    rw [← eB]
    refine vc_findM (T.2 - tS T a) (fun i => [.ref 86, .int (nI (T.1 (tS T a)))]) (fun i => (xa m 86 (upd (upd (upd (m.1 86) 13 (nI (tS T a))) 15 (nI (tS T a))) 13 (nI (tS T a + i))))) (fun i => ¬ tfg T (tS T a + i)) (fun i hi hp hf => ?_) (fun i hi hp => ?_) (fun hf hk => ?_)
    · have hi2 : ¬ nI T.2 ≤ nI (tS T a + i) := nI_ge (by omega) (by omega)
      have hi3 : nI (tS T a + i) < nI T.2 := Int32.not_le.mp hi2
      have hin : vp_in (nI (tS T a + i)) 400 := xin_nI (by omega) (by omega)
      obtain ⟨hb, hb2⟩ := hT.2 (tS T a + i) (by omega)
      have hp2 : ¬ (nI 48 ≤ nI (T.1 (tS T a + i)) ∧ nI (T.1 (tS T a + i)) ≤ nI 57) := by rw [qx_lo hb2 (by omega) (by omega)]; exact hp
      rw [show tF T (tS T a) = tS T a + i from by unfold tF; rw [hf]] at k1 k2
      by_cases c3 : 3 < tS T a + i - tS T a
      · have c4 : ¬ nI (tS T a + i) - nI (tS T a) ≤ 3 := by rw [nI_sub (by omega)]; exact nI_ge (a := 3) c3 (by omega)
        rw [if_pos c3] at k1
        refine vc_wp (T := TT [(156, S156), (157, S157b), (158, S158b)]) (TTc t156 (TTc t157b (TTc t158b TTn))) (fun _ => false) (rt0 := none) rfl (ckl_drop 58 c155) rfl ?_
        simp (disch := omega) only [List.drop, i155, wp_iinc, wpE0, wpE1, wpE2, wpE3, wpE4, wpE5, wpJ, okS, lt4S, popR, litS, Int32.reduceLT, Int32.reduceLE, List.getElem?_cons_zero, List.getElem?_cons_succ, Bool.false_eq_true, ↓reduceIte, Nat.reduceMod, Nat.reduceDiv, Nat.reduceAdd, Nat.reduceSub, Nat.reduceMul, Nat.reduceLeDiff, Nat.reduceEqDiff, Nat.reduceBEq, Int.reduceToNat, Int.reduceAdd, Int32.reduceOfInt, Int64.reduceOfInt, Int32.reduceToNatClampNeg, Int32.reduceOfNat, Bool.or_self, Bool.or_false, Bool.false_or, Bool.true_or, Bool.or_true, true_and, and_true, false_and, and_false, List.set_cons_zero, List.set_cons_succ, List.take_succ_cons, List.take_zero, List.drop_succ_cons, List.drop_zero, List.reverse_cons, List.reverse_nil, List.nil_append, List.cons_append, List.length_cons, List.length_nil, Option.toList_some, Option.toList_none, not_true_eq_false, not_false_eq_true, forall_const, true_implies, false_implies, nrw, TTS, shM, shO, and01, bI_0, bI_and, isRl, cmpS, toLS, toL_le, toL_lt, i2lS, inM, Int64.reduceLE, Int64.reduceLT, xa_1, xa_2, xa_xa, upd_at, updU, linS, nI_add, nI_s2, clN, inN, inLS, Nat.reduceEqDiff, ↓reduceIte, not_true_eq_false, not_false_eq_true, and_true, true_and, and_false, false_and, and_self, or_true, true_or, or_false, false_or, ↓reduceIte, if_true, if_false, eq_self, s156, i156, m6, h12, hi2, hi3, hin, hb, s158b, hp2, c4, subS, nI_1, not_true_eq_false, not_false_eq_true, and_true, true_and, and_false, false_and, and_self, or_true, true_or, or_false, false_or, ↓reduceIte, if_true, if_false, eq_self]
        refine hq _ ⟨?_, ?_, ?_, ?_⟩ (fun i hi => by simp (disch := omega) only [upd_ne])
        · rw [k2]; simp only [upd_at, Nat.reduceEqDiff, ↓reduceIte]
        · rw [k1]; simp only [upd_at, Nat.reduceEqDiff, ↓reduceIte]; first | rfl | (rw [rfl]; rfl)
        · simp only [upd_at, Nat.reduceEqDiff, ↓reduceIte]
        · rw [k2]; simp only [upd_at, Nat.reduceEqDiff, ↓reduceIte]
      · have c4 : nI (tS T a + i) - nI (tS T a) ≤ 3 := by rw [nI_sub (by omega)]; exact nI_le (b := 3) (by omega) (by omega)
        rw [if_neg c3] at k1
        refine vc_wp (T := TT [(156, S156), (157, S157b), (158, S158b)]) (TTc t156 (TTc t157b (TTc t158b TTn))) (fun _ => false) (rt0 := none) rfl (ckl_drop 58 c155) rfl ?_
        simp (disch := omega) only [List.drop, i155, wp_iinc, wpE0, wpE1, wpE2, wpE3, wpE4, wpE5, wpJ, okS, lt4S, popR, litS, Int32.reduceLT, Int32.reduceLE, List.getElem?_cons_zero, List.getElem?_cons_succ, Bool.false_eq_true, ↓reduceIte, Nat.reduceMod, Nat.reduceDiv, Nat.reduceAdd, Nat.reduceSub, Nat.reduceMul, Nat.reduceLeDiff, Nat.reduceEqDiff, Nat.reduceBEq, Int.reduceToNat, Int.reduceAdd, Int32.reduceOfInt, Int64.reduceOfInt, Int32.reduceToNatClampNeg, Int32.reduceOfNat, Bool.or_self, Bool.or_false, Bool.false_or, Bool.true_or, Bool.or_true, true_and, and_true, false_and, and_false, List.set_cons_zero, List.set_cons_succ, List.take_succ_cons, List.take_zero, List.drop_succ_cons, List.drop_zero, List.reverse_cons, List.reverse_nil, List.nil_append, List.cons_append, List.length_cons, List.length_nil, Option.toList_some, Option.toList_none, not_true_eq_false, not_false_eq_true, forall_const, true_implies, false_implies, nrw, TTS, shM, shO, and01, bI_0, bI_and, isRl, cmpS, toLS, toL_le, toL_lt, i2lS, inM, Int64.reduceLE, Int64.reduceLT, xa_1, xa_2, xa_xa, upd_at, updU, linS, nI_add, nI_s2, clN, inN, inLS, Nat.reduceEqDiff, ↓reduceIte, not_true_eq_false, not_false_eq_true, and_true, true_and, and_false, false_and, and_self, or_true, true_or, or_false, false_or, ↓reduceIte, if_true, if_false, eq_self, s156, i156, m6, h12, hi2, hi3, hin, hb, s158b, hp2, c4, subS, nI_1, not_true_eq_false, not_false_eq_true, and_true, true_and, and_false, false_and, and_self, or_true, true_or, or_false, false_or, ↓reduceIte, if_true, if_false, eq_self]
        refine hq _ ⟨?_, ?_, ?_, ?_⟩ (fun i hi => by simp (disch := omega) only [upd_ne])
        · rw [k2]; simp only [upd_at, Nat.reduceEqDiff, ↓reduceIte]
        · rw [k1]; simp only [upd_at, Nat.reduceEqDiff, ↓reduceIte]; first | rfl | (rw [rfl]; rfl)
        · simp only [upd_at, Nat.reduceEqDiff, ↓reduceIte]
        · rw [k2]; simp only [upd_at, Nat.reduceEqDiff, ↓reduceIte]
    · have hi2 : ¬ nI T.2 ≤ nI (tS T a + i) := nI_ge (by omega) (by omega)
      have hi3 : nI (tS T a + i) < nI T.2 := Int32.not_le.mp hi2
      have hin : vp_in (nI (tS T a + i)) 400 := xin_nI (by omega) (by omega)
      obtain ⟨hb, hb2⟩ := hT.2 (tS T a + i) (by omega)
      have hp2 : nI 48 ≤ nI (T.1 (tS T a + i)) ∧ nI (T.1 (tS T a + i)) ≤ nI 57 := by rw [qx_lo hb2 (by omega) (by omega)]; exact Classical.not_not.mp hp
      refine vc_wp (T := TT [(156, S156), (157, S157b), (158, S158b)]) (TTc t156 (TTc t157b (TTc t158b TTn))) (fun _ => false) (rt0 := none) rfl (ckl_drop 58 c155) rfl ?_
      simp (disch := omega) only [List.drop, i155, wp_iinc, wpE0, wpE1, wpE2, wpE3, wpE4, wpE5, wpJ, okS, lt4S, popR, litS, Int32.reduceLT, Int32.reduceLE, List.getElem?_cons_zero, List.getElem?_cons_succ, Bool.false_eq_true, ↓reduceIte, Nat.reduceMod, Nat.reduceDiv, Nat.reduceAdd, Nat.reduceSub, Nat.reduceMul, Nat.reduceLeDiff, Nat.reduceEqDiff, Nat.reduceBEq, Int.reduceToNat, Int.reduceAdd, Int32.reduceOfInt, Int64.reduceOfInt, Int32.reduceToNatClampNeg, Int32.reduceOfNat, Bool.or_self, Bool.or_false, Bool.false_or, Bool.true_or, Bool.or_true, true_and, and_true, false_and, and_false, List.set_cons_zero, List.set_cons_succ, List.take_succ_cons, List.take_zero, List.drop_succ_cons, List.drop_zero, List.reverse_cons, List.reverse_nil, List.nil_append, List.cons_append, List.length_cons, List.length_nil, Option.toList_some, Option.toList_none, not_true_eq_false, not_false_eq_true, forall_const, true_implies, false_implies, nrw, TTS, shM, shO, and01, bI_0, bI_and, isRl, cmpS, toLS, toL_le, toL_lt, i2lS, inM, Int64.reduceLE, Int64.reduceLT, xa_1, xa_2, xa_xa, upd_at, updU, linS, nI_add, nI_s2, clN, inN, inLS, Nat.reduceEqDiff, ↓reduceIte, not_true_eq_false, not_false_eq_true, and_true, true_and, and_false, false_and, and_self, or_true, true_or, or_false, false_or, ↓reduceIte, if_true, if_false, eq_self, s156, i156, m6, h12, hi2, hi3, hin, hb, s158b, hp2, Nat.add_assoc, subS, nI_1, not_true_eq_false, not_false_eq_true, and_true, true_and, and_false, false_and, and_self, or_true, true_or, or_false, false_or, ↓reduceIte, if_true, if_false, eq_self]
    · have hi2 : nI T.2 ≤ nI (tS T a + (T.2 - tS T a)) := nI_le (by omega) (by omega)
      have hi3 : ¬ nI (tS T a + (T.2 - tS T a)) < nI T.2 := Int32.not_lt.mpr hi2
      rw [show tF T (tS T a) = tS T a + (T.2 - tS T a) from by unfold tF; rw [hf]] at k1 k2
      by_cases c3 : 3 < tS T a + (T.2 - tS T a) - tS T a
      · have c4 : ¬ nI (tS T a + (T.2 - tS T a)) - nI (tS T a) ≤ 3 := by rw [nI_sub (by omega)]; exact nI_ge (a := 3) c3 (by omega)
        rw [if_pos c3] at k1
        refine vc_wp (T := TT [(156, S156), (157, S157b), (158, S158b)]) (TTc t156 (TTc t157b (TTc t158b TTn))) (fun _ => false) (rt0 := none) rfl (ckl_drop 58 c155) rfl ?_
        simp (disch := omega) only [List.drop, i155, wp_iinc, wpE0, wpE1, wpE2, wpE3, wpE4, wpE5, wpJ, okS, lt4S, popR, litS, Int32.reduceLT, Int32.reduceLE, List.getElem?_cons_zero, List.getElem?_cons_succ, Bool.false_eq_true, ↓reduceIte, Nat.reduceMod, Nat.reduceDiv, Nat.reduceAdd, Nat.reduceSub, Nat.reduceMul, Nat.reduceLeDiff, Nat.reduceEqDiff, Nat.reduceBEq, Int.reduceToNat, Int.reduceAdd, Int32.reduceOfInt, Int64.reduceOfInt, Int32.reduceToNatClampNeg, Int32.reduceOfNat, Bool.or_self, Bool.or_false, Bool.false_or, Bool.true_or, Bool.or_true, true_and, and_true, false_and, and_false, List.set_cons_zero, List.set_cons_succ, List.take_succ_cons, List.take_zero, List.drop_succ_cons, List.drop_zero, List.reverse_cons, List.reverse_nil, List.nil_append, List.cons_append, List.length_cons, List.length_nil, Option.toList_some, Option.toList_none, not_true_eq_false, not_false_eq_true, forall_const, true_implies, false_implies, nrw, TTS, shM, shO, and01, bI_0, bI_and, isRl, cmpS, toLS, toL_le, toL_lt, i2lS, inM, Int64.reduceLE, Int64.reduceLT, xa_1, xa_2, xa_xa, upd_at, updU, linS, nI_add, nI_s2, clN, inN, inLS, Nat.reduceEqDiff, ↓reduceIte, not_true_eq_false, not_false_eq_true, and_true, true_and, and_false, false_and, and_self, or_true, true_or, or_false, false_or, ↓reduceIte, if_true, if_false, eq_self, s156, i156, m6, h12, hi2, hi3, s158b, false_and, c4, subS, nI_1, not_true_eq_false, not_false_eq_true, and_true, true_and, and_false, false_and, and_self, or_true, true_or, or_false, false_or, ↓reduceIte, if_true, if_false, eq_self]
        refine hq _ ⟨?_, ?_, ?_, ?_⟩ (fun i hi => by simp (disch := omega) only [upd_ne])
        · rw [k2]; simp only [upd_at, Nat.reduceEqDiff, ↓reduceIte]
        · rw [k1]; simp only [upd_at, Nat.reduceEqDiff, ↓reduceIte]; first | rfl | (rw [rfl]; rfl)
        · simp only [upd_at, Nat.reduceEqDiff, ↓reduceIte]
        · rw [k2]; simp only [upd_at, Nat.reduceEqDiff, ↓reduceIte]
      · have c4 : nI (tS T a + (T.2 - tS T a)) - nI (tS T a) ≤ 3 := by rw [nI_sub (by omega)]; exact nI_le (b := 3) (by omega) (by omega)
        rw [if_neg c3] at k1
        refine vc_wp (T := TT [(156, S156), (157, S157b), (158, S158b)]) (TTc t156 (TTc t157b (TTc t158b TTn))) (fun _ => false) (rt0 := none) rfl (ckl_drop 58 c155) rfl ?_
        simp (disch := omega) only [List.drop, i155, wp_iinc, wpE0, wpE1, wpE2, wpE3, wpE4, wpE5, wpJ, okS, lt4S, popR, litS, Int32.reduceLT, Int32.reduceLE, List.getElem?_cons_zero, List.getElem?_cons_succ, Bool.false_eq_true, ↓reduceIte, Nat.reduceMod, Nat.reduceDiv, Nat.reduceAdd, Nat.reduceSub, Nat.reduceMul, Nat.reduceLeDiff, Nat.reduceEqDiff, Nat.reduceBEq, Int.reduceToNat, Int.reduceAdd, Int32.reduceOfInt, Int64.reduceOfInt, Int32.reduceToNatClampNeg, Int32.reduceOfNat, Bool.or_self, Bool.or_false, Bool.false_or, Bool.true_or, Bool.or_true, true_and, and_true, false_and, and_false, List.set_cons_zero, List.set_cons_succ, List.take_succ_cons, List.take_zero, List.drop_succ_cons, List.drop_zero, List.reverse_cons, List.reverse_nil, List.nil_append, List.cons_append, List.length_cons, List.length_nil, Option.toList_some, Option.toList_none, not_true_eq_false, not_false_eq_true, forall_const, true_implies, false_implies, nrw, TTS, shM, shO, and01, bI_0, bI_and, isRl, cmpS, toLS, toL_le, toL_lt, i2lS, inM, Int64.reduceLE, Int64.reduceLT, xa_1, xa_2, xa_xa, upd_at, updU, linS, nI_add, nI_s2, clN, inN, inLS, Nat.reduceEqDiff, ↓reduceIte, not_true_eq_false, not_false_eq_true, and_true, true_and, and_false, false_and, and_self, or_true, true_or, or_false, false_or, ↓reduceIte, if_true, if_false, eq_self, s156, i156, m6, h12, hi2, hi3, s158b, false_and, c4, subS, nI_1, not_true_eq_false, not_false_eq_true, and_true, true_and, and_false, false_and, and_self, or_true, true_or, or_false, false_or, ↓reduceIte, if_true, if_false, eq_self]
        refine hq _ ⟨?_, ?_, ?_, ?_⟩ (fun i hi => by simp (disch := omega) only [upd_ne])
        · rw [k2]; simp only [upd_at, Nat.reduceEqDiff, ↓reduceIte]
        · rw [k1]; simp only [upd_at, Nat.reduceEqDiff, ↓reduceIte]; first | rfl | (rw [rfl]; rfl)
        · simp only [upd_at, Nat.reduceEqDiff, ↓reduceIte]
        · rw [k2]; simp only [upd_at, Nat.reduceEqDiff, ↓reduceIte]
  have h1' := h1
  rw [← qL] at h1'
  have h2' := h2
  rw [← qF] at h2'
  obtain ⟨k1, k2⟩ := tK_3 h0 h1 h2
  have q59 : (nI (T.1 (tS T a)) = 59) = (T.1 (tS T a) = 59) := qx_eq (c := 59) hb02 (by omega)
  by_cases h4 : T.1 (tS T a) = 59
  · rw [if_pos h4] at k1
    have h4 := eq_true h4
    refine vc_wp (T := TT [(156, S156), (157, S157b), (158, S158b)]) (TTc t156 (TTc t157b (TTc t158b TTn))) (fun _ => false) (rt0 := none) rfl (ckl_drop 19 c155) rfl ?_
    simp (disch := omega) only [List.drop, i155, wp_iinc, wpE0, wpE1, wpE2, wpE3, wpE4, wpE5, wpJ, okS, lt4S, popR, litS, Int32.reduceLT, Int32.reduceLE, List.getElem?_cons_zero, List.getElem?_cons_succ, Bool.false_eq_true, ↓reduceIte, Nat.reduceMod, Nat.reduceDiv, Nat.reduceAdd, Nat.reduceSub, Nat.reduceMul, Nat.reduceLeDiff, Nat.reduceEqDiff, Nat.reduceBEq, Int.reduceToNat, Int.reduceAdd, Int32.reduceOfInt, Int64.reduceOfInt, Int32.reduceToNatClampNeg, Int32.reduceOfNat, Bool.or_self, Bool.or_false, Bool.false_or, Bool.true_or, Bool.or_true, true_and, and_true, false_and, and_false, List.set_cons_zero, List.set_cons_succ, List.take_succ_cons, List.take_zero, List.drop_succ_cons, List.drop_zero, List.reverse_cons, List.reverse_nil, List.nil_append, List.cons_append, List.length_cons, List.length_nil, Option.toList_some, Option.toList_none, not_true_eq_false, not_false_eq_true, forall_const, true_implies, false_implies, nrw, TTS, shM, shO, and01, bI_0, bI_and, isRl, cmpS, toLS, toL_le, toL_lt, i2lS, inM, Int64.reduceLE, Int64.reduceLT, xa_1, xa_2, xa_xa, upd_at, updU, linS, nI_add, nI_s2, clN, inN, inLS, Nat.reduceEqDiff, ↓reduceIte, not_true_eq_false, not_false_eq_true, and_true, true_and, and_false, false_and, and_self, or_true, true_or, or_false, false_or, ↓reduceIte, if_true, if_false, eq_self, s156, i156, m6, h12, c0, c0', hin0, hb0, qx_no hb02, s157b, s158b, h1', h2', q59, h4, subS, nI_1, not_true_eq_false, not_false_eq_true, and_true, true_and, and_false, false_and, and_self, or_true, true_or, or_false, false_or, ↓reduceIte, if_true, if_false, eq_self]
    refine hq _ ⟨?_, ?_, ?_, ?_⟩ (fun i hi => by simp (disch := omega) only [upd_ne])
    · rw [k2]; simp only [upd_at, Nat.reduceEqDiff, ↓reduceIte]
    · rw [k1]; simp only [upd_at, Nat.reduceEqDiff, ↓reduceIte]; first | rfl | (rw [rfl]; rfl)
    · simp only [upd_at, Nat.reduceEqDiff, ↓reduceIte]
    · rw [k2]; simp only [upd_at, Nat.reduceEqDiff, ↓reduceIte]
  · refine vc_wp (T := TT [(156, S156), (157, S157b), (158, S158b)]) (TTc t156 (TTc t157b (TTc t158b TTn))) (fun _ => false) (rt0 := none) rfl (ckl_drop 19 c155) rfl ?_
    simp (disch := omega) only [List.drop, i155, wp_iinc, wpE0, wpE1, wpE2, wpE3, wpE4, wpE5, wpJ, okS, lt4S, popR, litS, Int32.reduceLT, Int32.reduceLE, List.getElem?_cons_zero, List.getElem?_cons_succ, Bool.false_eq_true, ↓reduceIte, Nat.reduceMod, Nat.reduceDiv, Nat.reduceAdd, Nat.reduceSub, Nat.reduceMul, Nat.reduceLeDiff, Nat.reduceEqDiff, Nat.reduceBEq, Int.reduceToNat, Int.reduceAdd, Int32.reduceOfInt, Int64.reduceOfInt, Int32.reduceToNatClampNeg, Int32.reduceOfNat, Bool.or_self, Bool.or_false, Bool.false_or, Bool.true_or, Bool.or_true, true_and, and_true, false_and, and_false, List.set_cons_zero, List.set_cons_succ, List.take_succ_cons, List.take_zero, List.drop_succ_cons, List.drop_zero, List.reverse_cons, List.reverse_nil, List.nil_append, List.cons_append, List.length_cons, List.length_nil, Option.toList_some, Option.toList_none, not_true_eq_false, not_false_eq_true, forall_const, true_implies, false_implies, nrw, TTS, shM, shO, and01, bI_0, bI_and, isRl, cmpS, toLS, toL_le, toL_lt, i2lS, inM, Int64.reduceLE, Int64.reduceLT, xa_1, xa_2, xa_xa, upd_at, updU, linS, nI_add, nI_s2, clN, inN, inLS, Nat.reduceEqDiff, ↓reduceIte, not_true_eq_false, not_false_eq_true, and_true, true_and, and_false, false_and, and_self, or_true, true_or, or_false, false_or, ↓reduceIte, if_true, if_false, eq_self, s156, i156, m6, h12, c0, c0', hin0, hb0, qx_no hb02, s157b, s158b, h1', h2', q59, h4, subS, nI_1, not_true_eq_false, not_false_eq_true, and_true, true_and, and_false, false_and, and_self, or_true, true_or, or_false, false_or, ↓reduceIte, if_true, if_false, eq_self]
    rw [if_neg h4] at k1
    refine hq _ ⟨?_, ?_, ?_, ?_⟩ (fun i hi => by simp (disch := omega) only [upd_ne])
    · rw [k2]; simp only [upd_at, Nat.reduceEqDiff, ↓reduceIte]
    · rw [k1]; simp only [upd_at, Nat.reduceEqDiff, ↓reduceIte]; first | rfl | (rw [rfl]; rfl)
    · simp only [upd_at, Nat.reduceEqDiff, ↓reduceIte]
    · rw [k2]; simp only [upd_at, Nat.reduceEqDiff, ↓reduceIte]


