theorem cpy_d (f g : Nat → Int32) (s d k : Nat) : upd (va_cpy f g (s + 1) (d + 1) k) d (f s) = va_cpy f g s d (k + 1) := by
  funext q
  by_cases e : q = d
  · rw [upd_eq e, cpy_in (by omega) (by omega)]
    congr 1
    omega
  · rw [upd_ne e]
    by_cases z : d + 1 ≤ q ∧ q < d + 1 + k
    · rw [cpy_in z.1 z.2, cpy_in (by omega) (by omega)]
      congr 1
      omega
    · rw [cpy_out (by omega), cpy_out (by omega)]

def S18 (as : List Value) (m : xM) (Q : xQt) : Prop := match as with
  | [.ref o, .int a, .int f, .int n] => (o = 1) ∧ (vp_in a 8) ∧ Q (some (.int (bI (¬ f < 0 ∧ ¬ n < 0 ∧ ¬ (m.1 3 (ix a)).toInt64 < f.toInt64 + n.toInt64)))) (m)
  | _ => False
theorem s18 (o : Nat) (a : Int32) (f : Int32) (n : Int32) (m : xM) (Q : xQt) : S18 [.ref o, .int a, .int f, .int n] m Q = ((o = 1) ∧ (vp_in a 8) ∧ Q (some (.int (bI (¬ f < 0 ∧ ¬ n < 0 ∧ ¬ (m.1 3 (ix a)).toInt64 < f.toInt64 + n.toInt64)))) (m)) := rfl
theorem t18 {G : xG} : ∀ as m Q, S18 as m Q → Tri G 18 as m Q := by
  intro as m Q h
  match as, h with
  | [.ref o, .int a, .int f, .int n], h =>
    obtain ⟨rfl, hi, h⟩ := h
    refine tri_wp (T := TT []) (ls := [.ref 1, .int a, .int f, .int n]) TTn c18 (by decide +kernel) (rt0 := some .boolean) rfl rfl (Nat.le_of_ble_eq_true rfl) rfl ?_
    simp only [i18, wp_iinc, wpE0, wpE1, wpE2, wpE3, wpE4, wpE5, wpJ, okS, lt4S, popR, litS, Int32.reduceLT, Int32.reduceLE, List.getElem?_cons_zero, List.getElem?_cons_succ, Bool.false_eq_true, ↓reduceIte, Nat.reduceMod, Nat.reduceDiv, Nat.reduceAdd, Nat.reduceSub, Nat.reduceMul, Nat.reduceLeDiff, Nat.reduceEqDiff, Nat.reduceBEq, Int.reduceToNat, Int.reduceAdd, Int32.reduceOfInt, Int64.reduceOfInt, Int32.reduceToNatClampNeg, Int32.reduceOfNat, Bool.or_self, Bool.or_false, Bool.false_or, Bool.true_or, Bool.or_true, true_and, and_true, false_and, and_false, List.set_cons_zero, List.set_cons_succ, List.take_succ_cons, List.take_zero, List.drop_succ_cons, List.drop_zero, List.reverse_cons, List.reverse_nil, List.nil_append, List.cons_append, List.length_cons, List.length_nil, Option.toList_some, Option.toList_none, not_true_eq_false, not_false_eq_true, forall_const, true_implies, false_implies, nrw, TTS, shO, and01, cmpS, hi]
    refine ⟨fun q => ?_, fun q => ⟨fun q2 => ?_, fun q2 => ⟨fun q3 => ?_, fun q3 => ?_⟩⟩⟩
    · rw [bI_f (fun z => z.1 q)] at h; exact h
    · rw [bI_f (fun z => z.2.1 q2)] at h; exact h
    · rw [bI_f (fun z => z.2.2 q3)] at h; exact h
    · rw [bI_t ⟨q, q2, q3⟩] at h; exact h

def S19 (as : List Value) (m : xM) (Q : xQt) : Prop := match as with
  | [.ref o, .int a, .int f, .int b, .int g, .int n] => wp (fun _ _ _ _ => False) (fun _ => false) Q (none) (TT []) none i19 [.ref o, .int a, .int f, .int b, .int g, .int n] [] m
  | _ => False
theorem s19 (o : Nat) (a : Int32) (f : Int32) (b : Int32) (g : Int32) (n : Int32) (m : xM) (Q : xQt) : S19 [.ref o, .int a, .int f, .int b, .int g, .int n] m Q = wp (fun _ _ _ _ => False) (fun _ => false) Q (none) (TT []) none i19 [.ref o, .int a, .int f, .int b, .int g, .int n] [] m := rfl
theorem t19 {G : xG} : ∀ as m Q, S19 as m Q → Tri G 19 as m Q := by
  intro as m Q h
  match as, h with
  | [.ref o, .int a, .int f, .int b, .int g, .int n], h => exact tri_wp (T := TT []) (ls := [.ref o, .int a, .int f, .int b, .int g, .int n]) TTn c19 (by decide +kernel) (rt0 := none) rfl rfl (Nat.le_of_ble_eq_true rfl) rfl h

theorem ll_toInt {a b : Nat} (ha : a < 2 ^ 31) (hb : b < 2 ^ 31) : ((nI a).toInt64 + (nI b).toInt64).toInt = (a : Int) + b := by
  rw [Int64.toInt_add, Int32.toInt_toInt64, Int32.toInt_toInt64, nI_toInt ha, nI_toInt hb]
  exact bm64 (by omega) (by omega)
theorem ll_no {a b c : Nat} (ha : a < 2 ^ 31) (hc : c < 2 ^ 31) (h : a + b ≤ c) : ¬ (nI c).toInt64 < (nI a).toInt64 + (nI b).toInt64 := by
  rw [Int64.lt_iff_toInt_lt, ll_toInt ha (by omega), Int32.toInt_toInt64, nI_toInt hc]
  omega

theorem m151 {G : xG} {m : xM} {Q : xQt} {r s i j n : Nat} (hr : r < 8) (hs : s < 8) (hla : 0 ≤ m.1 87 r) (hlb : 0 ≤ m.1 87 s) (hll : m.1 87 r = m.1 87 s) (ha : bt (m.1 88 r) 0 40) (hb : bt (m.1 88 s) 0 40) (hi : i + n ≤ ix (m.1 88 r)) (hj : j + n ≤ ix (m.1 88 s)) (h : Q (some (.long (nI n).toInt64)) (xa (xa m 86 (upd (upd (m.1 86) 0 0) 1 0)) 89 (va_cpy (m.1 89) (m.1 89) (40 * r + i) (40 * s + j) n))) : Tri G 151 [.ref 86, .int (nI r), .int (nI i), .int (nI s), .int (nI j), .int (nI n)] m Q := by
  have hrr := hr_of hr
  have hss := hr_of hs
  have hir : (nI r).toNatClampNeg = r := nI_clamp (by omega)
  have his : (nI s).toNatClampNeg = s := nI_clamp (by omega)
  have hinr : vp_in (nI r) 8 := xin_nI hr (by omega)
  have hins : vp_in (nI s) 8 := xin_nI hs (by omega)
  have hra := ix_b (n := 40) (by decide) ha
  have hrb := ix_b (n := 40) (by decide) hb
  have hni : ¬ nI i < 0 := nI_pos (by omega)
  have hnj : ¬ nI j < 0 := nI_pos (by omega)
  have hnn : ¬ nI n < 0 := nI_pos (by omega)
  have hla2 : ¬ m.1 87 s < 0 := Int32.not_lt.mpr hlb
  have hsa : ¬ (m.1 88 r).toInt64 < (nI i).toInt64 + (nI n).toInt64 := by
    rw [hra.2]; exact ll_no (by omega) (by omega) hi
  have hsb : ¬ (m.1 88 s).toInt64 < (nI j).toInt64 + (nI n).toInt64 := by
    rw [hrb.2]; exact ll_no (by omega) (by omega) hj
  have hsb2 := Int64.not_lt.mp hsb
  refine tri_vc (ls := [.ref 86, .int (nI r), .int (nI i), .int (nI s), .int (nI j), .int (nI n), .null, .null, .null]) (by decide +kernel) rfl (Nat.le_of_ble_eq_true rfl) ?_
  by_cases hup : j ≤ i
  · have hup : ¬ nI i < nI j := nI_nlt hup (by omega)
    refine vc_seq (pc1 := 144) (ls1 := [.ref 86, .int (nI r), .int (nI i), .int (nI s), .int (nI j), .int (nI n), .int 1, .int 0, .null]) (m1 := (xa m 86 (upd (upd (m.1 86) 0 0) 1 0))) (vc_wp (T := TT [(147, S147), (149, S149), (148, S148)]) (TTc t147 (TTc t149 (TTc t148 TTn))) (fun p => p == 144) (rt0 := some .long) rfl c151 rfl ?_) ?_
    · simp (disch := omega) only [i151, wp_iinc, wpE0, wpE1, wpE2, wpE3, wpE4, wpE5, wpJ, okS, lt4S, popR, litS, Int32.reduceLT, Int32.reduceLE, List.getElem?_cons_zero, List.getElem?_cons_succ, Bool.false_eq_true, ↓reduceIte, Nat.reduceMod, Nat.reduceDiv, Nat.reduceAdd, Nat.reduceSub, Nat.reduceMul, Nat.reduceLeDiff, Nat.reduceEqDiff, Nat.reduceBEq, Int.reduceToNat, Int.reduceAdd, Int32.reduceOfInt, Int64.reduceOfInt, Int32.reduceToNatClampNeg, Int32.reduceOfNat, Bool.or_self, Bool.or_false, Bool.false_or, Bool.true_or, Bool.or_true, true_and, and_true, false_and, and_false, List.set_cons_zero, List.set_cons_succ, List.take_succ_cons, List.take_zero, List.drop_succ_cons, List.drop_zero, List.reverse_cons, List.reverse_nil, List.nil_append, List.cons_append, List.length_cons, List.length_nil, Option.toList_some, Option.toList_none, not_true_eq_false, not_false_eq_true, forall_const, true_implies, false_implies, nrw, TTS, s147, s149, s148, i149, shM, shO, and01, bI_0, bI_and, isRl, cmpS, toLS, toL_le, toL_lt, i2lS, inM, Int64.reduceLE, Int64.reduceLT, xa_1, xa_2, xa_xa, upd_at, updU, linS, nI_add, nI_s2, clN, inN, inLS, Nat.reduceEqDiff, ↓reduceIte, not_true_eq_false, not_false_eq_true, and_true, true_and, and_false, false_and, and_self, or_true, true_or, or_false, false_or, ↓reduceIte, if_true, if_false, eq_self, isR_eq, hrr, hss, hir, his, hinr, hins, hla, hlb, hll, hla2, hup, hni, hnj, hnn, hsa, hsb, hsb2, Int32.not_lt, subS, not_true_eq_false, not_false_eq_true, and_true, true_and, and_false, false_and, and_self, or_true, true_or, or_false, false_or, ↓reduceIte, if_true, if_false, eq_self]
    have e0 : (xa (xa m 86 (upd (upd (m.1 86) 0 0) 1 0)) 89 (va_cpy (m.1 89) (m.1 89) (40 * r + i) (40 * s + j) 0)) = (xa m 86 (upd (upd (m.1 86) 0 0) 1 0)) := by rw [cpy_0]; exact xa_id (xa m 86 (upd (upd (m.1 86) 0 0) 1 0)) 89
    rw [← e0]
    refine vc_for n (fun k => [.ref 86, .int (nI r), .int (nI i), .int (nI s), .int (nI j), .int (nI n), .int 1, .int (nI k), .null]) (fun k => (xa (xa m 86 (upd (upd (m.1 86) 0 0) 1 0)) 89 (va_cpy (m.1 89) (m.1 89) (40 * r + i) (40 * s + j) k))) (fun k hi => ?_) ?_
    · refine vc_wp (T := TT [(147, S147), (149, S149), (148, S148)]) (TTc t147 (TTc t149 (TTc t148 TTn))) (fun _ => false) (rt0 := some .long) rfl (ckl_drop 84 c151) rfl ?_
      have hi2 : ¬ nI n ≤ nI k := nI_ge hi (by omega)
      have er : va_cpy (m.1 89) (m.1 89) (40 * r + i) (40 * s + j) k (40 * r + i + k) = m.1 89 (40 * r + i + k) := cpy_out (by omega)
      have es := cpy_s (m.1 89) (m.1 89) (40 * r + i) (40 * s + j) k
      simp (disch := omega) only [List.drop, i151, wp_iinc, wpE0, wpE1, wpE2, wpE3, wpE4, wpE5, wpJ, okS, lt4S, popR, litS, Int32.reduceLT, Int32.reduceLE, List.getElem?_cons_zero, List.getElem?_cons_succ, Bool.false_eq_true, ↓reduceIte, Nat.reduceMod, Nat.reduceDiv, Nat.reduceAdd, Nat.reduceSub, Nat.reduceMul, Nat.reduceLeDiff, Nat.reduceEqDiff, Nat.reduceBEq, Int.reduceToNat, Int.reduceAdd, Int32.reduceOfInt, Int64.reduceOfInt, Int32.reduceToNatClampNeg, Int32.reduceOfNat, Bool.or_self, Bool.or_false, Bool.false_or, Bool.true_or, Bool.or_true, true_and, and_true, false_and, and_false, List.set_cons_zero, List.set_cons_succ, List.take_succ_cons, List.take_zero, List.drop_succ_cons, List.drop_zero, List.reverse_cons, List.reverse_nil, List.nil_append, List.cons_append, List.length_cons, List.length_nil, Option.toList_some, Option.toList_none, not_true_eq_false, not_false_eq_true, forall_const, true_implies, false_implies, nrw, TTS, s147, s149, s148, i149, shM, shO, and01, bI_0, bI_and, isRl, cmpS, toLS, toL_le, toL_lt, i2lS, inM, Int64.reduceLE, Int64.reduceLT, xa_1, xa_2, xa_xa, upd_at, updU, linS, nI_add, nI_s2, clN, inN, inLS, Nat.reduceEqDiff, ↓reduceIte, not_true_eq_false, not_false_eq_true, and_true, true_and, and_false, false_and, and_self, or_true, true_or, or_false, false_or, ↓reduceIte, if_true, if_false, eq_self, isR_eq, hrr, hss, hir, his, hinr, hins, hla, hlb, hll, hla2, er, es, subS, hi2, nI_1, fd, not_true_eq_false, not_false_eq_true, and_true, true_and, and_false, false_and, and_self, or_true, true_or, or_false, false_or, ↓reduceIte, if_true, if_false, eq_self]
    · have hi2 : nI n ≤ nI n := Int32.le_refl _
      refine vc_wp (T := TT [(147, S147), (149, S149), (148, S148)]) (TTc t147 (TTc t149 (TTc t148 TTn))) (fun _ => false) (rt0 := some .long) rfl (ckl_drop 84 c151) rfl ?_
      simp (disch := omega) only [List.drop, i151, wp_iinc, wpE0, wpE1, wpE2, wpE3, wpE4, wpE5, wpJ, okS, lt4S, popR, litS, Int32.reduceLT, Int32.reduceLE, List.getElem?_cons_zero, List.getElem?_cons_succ, Bool.false_eq_true, ↓reduceIte, Nat.reduceMod, Nat.reduceDiv, Nat.reduceAdd, Nat.reduceSub, Nat.reduceMul, Nat.reduceLeDiff, Nat.reduceEqDiff, Nat.reduceBEq, Int.reduceToNat, Int.reduceAdd, Int32.reduceOfInt, Int64.reduceOfInt, Int32.reduceToNatClampNeg, Int32.reduceOfNat, Bool.or_self, Bool.or_false, Bool.false_or, Bool.true_or, Bool.or_true, true_and, and_true, false_and, and_false, List.set_cons_zero, List.set_cons_succ, List.take_succ_cons, List.take_zero, List.drop_succ_cons, List.drop_zero, List.reverse_cons, List.reverse_nil, List.nil_append, List.cons_append, List.length_cons, List.length_nil, Option.toList_some, Option.toList_none, not_true_eq_false, not_false_eq_true, forall_const, true_implies, false_implies, nrw, TTS, s147, s149, s148, i149, shM, shO, and01, bI_0, bI_and, isRl, cmpS, toLS, toL_le, toL_lt, i2lS, inM, Int64.reduceLE, Int64.reduceLT, xa_1, xa_2, xa_xa, upd_at, updU, linS, nI_add, nI_s2, clN, inN, inLS, Nat.reduceEqDiff, ↓reduceIte, not_true_eq_false, not_false_eq_true, and_true, true_and, and_false, false_and, and_self, or_true, true_or, or_false, false_or, ↓reduceIte, if_true, if_false, eq_self, isR_eq, hrr, hss, hir, his, hinr, hins, hla, hlb, hll, hla2, hi2, not_true_eq_false, not_false_eq_true, and_true, true_and, and_false, false_and, and_self, or_true, true_or, or_false, false_or, ↓reduceIte, if_true, if_false, eq_self]
      exact h 
  · rw [Nat.not_le] at hup
    have hup : nI i < nI j := nI_lt hup (by omega)
    refine vc_seq (pc1 := 144) (ls1 := [.ref 86, .int (nI r), .int (nI i), .int (nI s), .int (nI j), .int (nI n), .int 0, .int 0, .null]) (m1 := (xa m 86 (upd (upd (m.1 86) 0 0) 1 0))) (vc_wp (T := TT [(147, S147), (149, S149), (148, S148)]) (TTc t147 (TTc t149 (TTc t148 TTn))) (fun p => p == 144) (rt0 := some .long) rfl c151 rfl ?_) ?_
    · simp (disch := omega) only [i151, wp_iinc, wpE0, wpE1, wpE2, wpE3, wpE4, wpE5, wpJ, okS, lt4S, popR, litS, Int32.reduceLT, Int32.reduceLE, List.getElem?_cons_zero, List.getElem?_cons_succ, Bool.false_eq_true, ↓reduceIte, Nat.reduceMod, Nat.reduceDiv, Nat.reduceAdd, Nat.reduceSub, Nat.reduceMul, Nat.reduceLeDiff, Nat.reduceEqDiff, Nat.reduceBEq, Int.reduceToNat, Int.reduceAdd, Int32.reduceOfInt, Int64.reduceOfInt, Int32.reduceToNatClampNeg, Int32.reduceOfNat, Bool.or_self, Bool.or_false, Bool.false_or, Bool.true_or, Bool.or_true, true_and, and_true, false_and, and_false, List.set_cons_zero, List.set_cons_succ, List.take_succ_cons, List.take_zero, List.drop_succ_cons, List.drop_zero, List.reverse_cons, List.reverse_nil, List.nil_append, List.cons_append, List.length_cons, List.length_nil, Option.toList_some, Option.toList_none, not_true_eq_false, not_false_eq_true, forall_const, true_implies, false_implies, nrw, TTS, s147, s149, s148, i149, shM, shO, and01, bI_0, bI_and, isRl, cmpS, toLS, toL_le, toL_lt, i2lS, inM, Int64.reduceLE, Int64.reduceLT, xa_1, xa_2, xa_xa, upd_at, updU, linS, nI_add, nI_s2, clN, inN, inLS, Nat.reduceEqDiff, ↓reduceIte, not_true_eq_false, not_false_eq_true, and_true, true_and, and_false, false_and, and_self, or_true, true_or, or_false, false_or, ↓reduceIte, if_true, if_false, eq_self, isR_eq, hrr, hss, hir, his, hinr, hins, hla, hlb, hll, hla2, hup, hni, hnj, hnn, hsa, hsb, hsb2, Int32.not_lt, subS, not_true_eq_false, not_false_eq_true, and_true, true_and, and_false, false_and, and_self, or_true, true_or, or_false, false_or, ↓reduceIte, if_true, if_false, eq_self]
    have e0 : (xa (xa m 86 (upd (upd (m.1 86) 0 0) 1 0)) 89 (va_cpy (m.1 89) (m.1 89) (40 * r + i + (n - 0)) (40 * s + j + (n - 0)) 0)) = (xa m 86 (upd (upd (m.1 86) 0 0) 1 0)) := by rw [cpy_0]; exact xa_id (xa m 86 (upd (upd (m.1 86) 0 0) 1 0)) 89
    rw [← e0]
    refine vc_for n (fun k => [.ref 86, .int (nI r), .int (nI i), .int (nI s), .int (nI j), .int (nI n), .int 0, .int (nI k), .null]) (fun k => (xa (xa m 86 (upd (upd (m.1 86) 0 0) 1 0)) 89 (va_cpy (m.1 89) (m.1 89) (40 * r + i + (n - k)) (40 * s + j + (n - k)) k))) (fun k hi => ?_) ?_
    · refine vc_wp (T := TT [(147, S147), (149, S149), (148, S148)]) (TTc t147 (TTc t149 (TTc t148 TTn))) (fun _ => false) (rt0 := some .long) rfl (ckl_drop 84 c151) rfl ?_
      have hi2 : ¬ nI n ≤ nI k := nI_ge hi (by omega)
      have eat : nI n - 1 - nI k = nI (n - 1 - k) := by
        rw [show (1 : Int32) = nI 1 from rfl, nI_sub (by omega), nI_sub (by omega)]
      obtain ⟨q, hq⟩ : ∃ q, n - k = q + 1 := ⟨n - k - 1, by omega⟩
      have hq2 : n - 1 - k = q := by omega
      have hq3 : n - (k + 1) = q := by omega
      rw [hq2] at eat
      have er : va_cpy (m.1 89) (m.1 89) (40 * r + i + (q + 1)) (40 * s + j + (q + 1)) k (40 * r + i + q) = m.1 89 (40 * r + i + q) := cpy_out (by omega)
      have es := cpy_d (m.1 89) (m.1 89) (40 * r + i + q) (40 * s + j + q) k
      rw [Nat.add_assoc (40 * r + i), Nat.add_assoc (40 * s + j)] at es
      simp (disch := omega) only [List.drop, i151, wp_iinc, wpE0, wpE1, wpE2, wpE3, wpE4, wpE5, wpJ, okS, lt4S, popR, litS, Int32.reduceLT, Int32.reduceLE, List.getElem?_cons_zero, List.getElem?_cons_succ, Bool.false_eq_true, ↓reduceIte, Nat.reduceMod, Nat.reduceDiv, Nat.reduceAdd, Nat.reduceSub, Nat.reduceMul, Nat.reduceLeDiff, Nat.reduceEqDiff, Nat.reduceBEq, Int.reduceToNat, Int.reduceAdd, Int32.reduceOfInt, Int64.reduceOfInt, Int32.reduceToNatClampNeg, Int32.reduceOfNat, Bool.or_self, Bool.or_false, Bool.false_or, Bool.true_or, Bool.or_true, true_and, and_true, false_and, and_false, List.set_cons_zero, List.set_cons_succ, List.take_succ_cons, List.take_zero, List.drop_succ_cons, List.drop_zero, List.reverse_cons, List.reverse_nil, List.nil_append, List.cons_append, List.length_cons, List.length_nil, Option.toList_some, Option.toList_none, not_true_eq_false, not_false_eq_true, forall_const, true_implies, false_implies, nrw, TTS, s147, s149, s148, i149, shM, shO, and01, bI_0, bI_and, isRl, cmpS, toLS, toL_le, toL_lt, i2lS, inM, Int64.reduceLE, Int64.reduceLT, xa_1, xa_2, xa_xa, upd_at, updU, linS, nI_add, nI_s2, clN, inN, inLS, Nat.reduceEqDiff, ↓reduceIte, not_true_eq_false, not_false_eq_true, and_true, true_and, and_false, false_and, and_self, or_true, true_or, or_false, false_or, ↓reduceIte, if_true, if_false, eq_self, isR_eq, hrr, hss, hir, his, hinr, hins, hla, hlb, hll, hla2, eat, hq, hq3, er, es, subS, hi2, nI_1, fd, not_true_eq_false, not_false_eq_true, and_true, true_and, and_false, false_and, and_self, or_true, true_or, or_false, false_or, ↓reduceIte, if_true, if_false, eq_self]
    · have hi2 : nI n ≤ nI n := Int32.le_refl _
      refine vc_wp (T := TT [(147, S147), (149, S149), (148, S148)]) (TTc t147 (TTc t149 (TTc t148 TTn))) (fun _ => false) (rt0 := some .long) rfl (ckl_drop 84 c151) rfl ?_
      simp (disch := omega) only [List.drop, i151, wp_iinc, wpE0, wpE1, wpE2, wpE3, wpE4, wpE5, wpJ, okS, lt4S, popR, litS, Int32.reduceLT, Int32.reduceLE, List.getElem?_cons_zero, List.getElem?_cons_succ, Bool.false_eq_true, ↓reduceIte, Nat.reduceMod, Nat.reduceDiv, Nat.reduceAdd, Nat.reduceSub, Nat.reduceMul, Nat.reduceLeDiff, Nat.reduceEqDiff, Nat.reduceBEq, Int.reduceToNat, Int.reduceAdd, Int32.reduceOfInt, Int64.reduceOfInt, Int32.reduceToNatClampNeg, Int32.reduceOfNat, Bool.or_self, Bool.or_false, Bool.false_or, Bool.true_or, Bool.or_true, true_and, and_true, false_and, and_false, List.set_cons_zero, List.set_cons_succ, List.take_succ_cons, List.take_zero, List.drop_succ_cons, List.drop_zero, List.reverse_cons, List.reverse_nil, List.nil_append, List.cons_append, List.length_cons, List.length_nil, Option.toList_some, Option.toList_none, not_true_eq_false, not_false_eq_true, forall_const, true_implies, false_implies, nrw, TTS, s147, s149, s148, i149, shM, shO, and01, bI_0, bI_and, isRl, cmpS, toLS, toL_le, toL_lt, i2lS, inM, Int64.reduceLE, Int64.reduceLT, xa_1, xa_2, xa_xa, upd_at, updU, linS, nI_add, nI_s2, clN, inN, inLS, Nat.reduceEqDiff, ↓reduceIte, not_true_eq_false, not_false_eq_true, and_true, true_and, and_false, false_and, and_self, or_true, true_or, or_false, false_or, ↓reduceIte, if_true, if_false, eq_self, isR_eq, hrr, hss, hir, his, hinr, hins, hla, hlb, hll, hla2, hi2, not_true_eq_false, not_false_eq_true, and_true, true_and, and_false, false_and, and_self, or_true, true_or, or_false, false_or, ↓reduceIte, if_true, if_false, eq_self]
      simp only [Nat.sub_self, Nat.add_zero] at h ⊢
      exact h

