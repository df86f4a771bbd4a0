def S193b (k : KK) (X : X6) (as : List Value) (m : xM) (Q : xQt) : Prop := match as with
  | [.ref o, .ref r, .int b] => (o = 86) ∧ (isR r) ∧ (m.1 90 4 ≤ 12) ∧ (vp_in b 6) ∧ (ix b < ix (m.1 90 3)) ∧ (EK k (m.1 90)) ∧ (E6 (ix (m.1 90 4)) X (m.1 r)) ∧ Q (some (.int (aLever k X b))) m
  | _ => False
theorem s193b (k : KK) (X : X6) (o : Nat) (r : Nat) (b : Int32) (m : xM) (Q : xQt) : S193b k X [.ref o, .ref r, .int b] m Q = ((o = 86) ∧ (isR r) ∧ (m.1 90 4 ≤ 12) ∧ (vp_in b 6) ∧ (ix b < ix (m.1 90 3)) ∧ (EK k (m.1 90)) ∧ (E6 (ix (m.1 90 4)) X (m.1 r)) ∧ Q (some (.int (aLever k X b))) m) := rfl
theorem t193b {G : xG} (k : KK) (X : X6) : ∀ as m Q, S193b k X as m Q → Tri G 193 as m Q := by
  intro as m Q h
  match as, h with
  | [.ref o, .ref r, .int b], h =>
    obtain ⟨rfl, hr, hn, hb, hbb, hk, hx, h⟩ := h
    exact t193 [.ref 86, .ref r, .int b] m Q ⟨rfl, hr, hn, hb, by rw [fl_lever hk hx hn hbb]; exact h⟩

def S187b (k : KK) (X : X6) (as : List Value) (m : xM) (Q : xQt) : Prop := match as with
  | [.ref o, .ref r, .int b] => (o = 86) ∧ (isR r) ∧ (m.1 90 4 ≤ 12) ∧ (vp_in b 6) ∧ (ix b < ix (m.1 90 3)) ∧ (EK k (m.1 90)) ∧ (E6 (ix (m.1 90 4)) X (m.1 r)) ∧ Q (some (.int (aIn k X b))) m
  | _ => False
theorem s187b (k : KK) (X : X6) (o : Nat) (r : Nat) (b : Int32) (m : xM) (Q : xQt) : S187b k X [.ref o, .ref r, .int b] m Q = ((o = 86) ∧ (isR r) ∧ (m.1 90 4 ≤ 12) ∧ (vp_in b 6) ∧ (ix b < ix (m.1 90 3)) ∧ (EK k (m.1 90)) ∧ (E6 (ix (m.1 90 4)) X (m.1 r)) ∧ Q (some (.int (aIn k X b))) m) := rfl
theorem t187b {G : xG} (k : KK) (X : X6) : ∀ as m Q, S187b k X as m Q → Tri G 187 as m Q := by
  intro as m Q h
  match as, h with
  | [.ref o, .ref r, .int b], h =>
    obtain ⟨rfl, hr, hn, hb, hbb, hk, hx, h⟩ := h
    exact t187 [.ref 86, .ref r, .int b] m Q ⟨rfl, hr, hn, by rw [fl_in hk hx hn]; exact h⟩

def S188b (k : KK) (X : X6) (as : List Value) (m : xM) (Q : xQt) : Prop := match as with
  | [.ref o, .ref r, .int b] => (o = 86) ∧ (isR r) ∧ (m.1 90 4 ≤ 12) ∧ (vp_in b 6) ∧ (ix b < ix (m.1 90 3)) ∧ (EK k (m.1 90)) ∧ (E6 (ix (m.1 90 4)) X (m.1 r)) ∧ Q (some (.int (aAble k X b 0))) m
  | _ => False
theorem s188b (k : KK) (X : X6) (o : Nat) (r : Nat) (b : Int32) (m : xM) (Q : xQt) : S188b k X [.ref o, .ref r, .int b] m Q = ((o = 86) ∧ (isR r) ∧ (m.1 90 4 ≤ 12) ∧ (vp_in b 6) ∧ (ix b < ix (m.1 90 3)) ∧ (EK k (m.1 90)) ∧ (E6 (ix (m.1 90 4)) X (m.1 r)) ∧ Q (some (.int (aAble k X b 0))) m) := rfl
theorem t188b {G : xG} (k : KK) (X : X6) : ∀ as m Q, S188b k X as m Q → Tri G 188 as m Q := by
  intro as m Q h
  match as, h with
  | [.ref o, .ref r, .int b], h =>
    obtain ⟨rfl, hr, hn, hb, hbb, hk, hx, h⟩ := h
    exact t188 [.ref 86, .ref r, .int b] m Q ⟨rfl, hr, hn, by rw [fl_able hk hx hn]; exact h⟩

def S191b (k : KK) (X : X6) (as : List Value) (m : xM) (Q : xQt) : Prop := match as with
  | [.ref o, .ref r, .int b] => (o = 86) ∧ (isR r) ∧ (m.1 90 4 ≤ 12) ∧ (vp_in b 6) ∧ (ix b < ix (m.1 90 3)) ∧ (EK k (m.1 90)) ∧ (E6 (ix (m.1 90 4)) X (m.1 r)) ∧ (∀ z : Int32, (z = 0) = (aAble k X b 3 = 0) → Q (some (.int z)) m)
  | _ => False
theorem s191b (k : KK) (X : X6) (o : Nat) (r : Nat) (b : Int32) (m : xM) (Q : xQt) : S191b k X [.ref o, .ref r, .int b] m Q = ((o = 86) ∧ (isR r) ∧ (m.1 90 4 ≤ 12) ∧ (vp_in b 6) ∧ (ix b < ix (m.1 90 3)) ∧ (EK k (m.1 90)) ∧ (E6 (ix (m.1 90 4)) X (m.1 r)) ∧ (∀ z : Int32, (z = 0) = (aAble k X b 3 = 0) → Q (some (.int z)) m)) := rfl
theorem t191b {G : xG} (k : KK) (X : X6) : ∀ as m Q, S191b k X as m Q → Tri G 191 as m Q := by
  intro as m Q h
  match as, h with
  | [.ref o, .ref r, .int b], h =>
    obtain ⟨rfl, hr, hn, hb, hbb, hk, hx, h⟩ := h
    exact t191 [.ref 86, .ref r, .int b] m Q ⟨rfl, hr, hn, h _ (fl_bow hk hx hn b)⟩

def S192 (as : List Value) (m : xM) (Q : xQt) : Prop := match as with
  | [.ref o, .int a, .int a2, .int a3] => wp (fun _ _ _ _ => False) (fun _ => false) Q (some .int) (TT [(186, S186)]) none i192 [.ref o, .int a, .int a2, .int a3] [] m
  | _ => False
theorem s192 (o : Nat) (a : Int32) (a2 : Int32) (a3 : Int32) (m : xM) (Q : xQt) : S192 [.ref o, .int a, .int a2, .int a3] m Q = wp (fun _ _ _ _ => False) (fun _ => false) Q (some .int) (TT [(186, S186)]) none i192 [.ref o, .int a, .int a2, .int a3] [] m := rfl
theorem t192 {G : xG} : ∀ as m Q, S192 as m Q → Tri G 192 as m Q := by
  intro as m Q h
  match as, h with
  | [.ref o, .int a, .int a2, .int a3], h => exact tri_wp (T := TT [(186, S186)]) (ls := [.ref o, .int a, .int a2, .int a3]) (TTc t186 TTn) c192 (by decide +kernel) (rt0 := some .int) rfl rfl (Nat.le_of_ble_eq_true rfl) rfl h

def S190b (k : KK) (X : X6) (as : List Value) (m : xM) (Q : xQt) : Prop := match as with
  | [.ref o, .ref r, .int b] => (o = 86) ∧ (isR r) ∧ (m.1 90 4 ≤ 12) ∧ (vp_in b 6) ∧ (ix b < ix (m.1 90 3)) ∧ (EK k (m.1 90)) ∧ (E6 (ix (m.1 90 4)) X (m.1 r)) ∧ Q (some (.int (aNeed k X b))) m
  | _ => False
theorem s190b (k : KK) (X : X6) (o : Nat) (r : Nat) (b : Int32) (m : xM) (Q : xQt) : S190b k X [.ref o, .ref r, .int b] m Q = ((o = 86) ∧ (isR r) ∧ (m.1 90 4 ≤ 12) ∧ (vp_in b 6) ∧ (ix b < ix (m.1 90 3)) ∧ (EK k (m.1 90)) ∧ (E6 (ix (m.1 90 4)) X (m.1 r)) ∧ Q (some (.int (aNeed k X b))) m) := rfl
theorem t190b {G : xG} (k : KK) (X : X6) : ∀ as m Q, S190b k X as m Q → Tri G 190 as m Q := by
  intro as m Q h
  match as, h with
  | [.ref o, .ref r, .int b], h =>
    obtain ⟨rfl, hr, hn, hb, hbb, hk, hx, h⟩ := h
    obtain ⟨j, hj, rfl⟩ := vp_in_of hb (by decide)
    have hbj : ix (nI j) = j := clN (by omega)
    rw [hbj] at hbb
    refine tri_wp (T := TT [(191, S191b k X), (192, S192)]) (ls := [.ref 86, .ref r, .int (nI j)]) (TTc (t191b k X) (TTc (t192) TTn)) c190 (by decide +kernel) (rt0 := some .int) rfl rfl (Nat.le_of_ble_eq_true rfl) rfl ?_
    simp (disch := omega) only [i190, wp_iinc, wpE0, wpE1, wpE2, wpE3, wpE4, wpE5, wpJ, okS, lt4S, popR, litS, Int32.reduceLT, Int32.reduceLE, List.getElem?_cons_zero, List.getElem?_cons_succ, Bool.false_eq_true, ↓reduceIte, Nat.reduceMod, Nat.reduceDiv, Nat.reduceAdd, Nat.reduceSub, Nat.reduceMul, Nat.reduceLeDiff, Nat.reduceEqDiff, Nat.reduceBEq, Int.reduceToNat, Int.reduceAdd, Int32.reduceOfInt, Int64.reduceOfInt, Int32.reduceToNatClampNeg, Int32.reduceOfNat, Bool.or_self, Bool.or_false, Bool.false_or, Bool.true_or, Bool.or_true, true_and, and_true, false_and, and_false, List.set_cons_zero, List.set_cons_succ, List.take_succ_cons, List.take_zero, List.drop_succ_cons, List.drop_zero, List.reverse_cons, List.reverse_nil, List.nil_append, List.cons_append, List.length_cons, List.length_nil, Option.toList_some, Option.toList_none, not_true_eq_false, not_false_eq_true, forall_const, true_implies, false_implies, nrw, TTS, s191b, s192, s186, i192, i186, shM, isRl, and01, bI_0, linS, nI_add, clN, inN, inLS, xa_1, xa_2, xa_xa, neR hr, upd_ne, shR hr, hr, hn, hb, hbb, hk, hx]
    intro z hz
    have e := fl_need (b := nI j) hk hx hn hb (by rw [hbj]; exact hbb) hz
    rw [hbj] at e
    refine ⟨fun q => ?_, fun q => ?_⟩
    · rw [if_pos q] at e
      rw [e]; exact h
    · rw [if_neg q] at e
      rw [e]; exact h

def aRnd (k : KK) (X : X6) (b : Int32) : X6 := if xHo X (ix b) = 3 then (upd X.1 (ix b) (if aLever k X b < 3 * aNeed k X b then 3 else 2), X.2) else (if aLever k X b < 2 * aNeed k X b then X else (upd X.1 (ix b) 1, upd X.2.1 (ix b) 50, X.2.2.1, upd X.2.2.2.1 (ix b) (X.2.2.2.1 (ix b) + 1), X.2.2.2.2))
theorem e_id {N : Nat} {X : X6} {f : Nat → Int32} {b : Nat} {v : Int32} (h : E6 N X f) (hb : b < 6) (hv : f (4 * b + 0) = v) : E6 N (upd X.1 b v, X.2) f := by
  refine ⟨fun b' hb' => ?_, h.2⟩
  obtain ⟨h1, h2, h3, h4⟩ := h.1 b' hb'
  refine ⟨?_, h2, h3, h4⟩
  by_cases e : b' = b
  · rw [e]; exact (upd_eq rfl).trans hv.symm
  · exact (upd_ne e).trans h1
theorem upd_id {f : Nat → Int32} {i : Nat} {x : Int32} (h : f i = x) : upd f i x = f := by
  funext q
  by_cases e : q = i
  · rw [upd_eq e, e]; exact h.symm
  · exact upd_ne e
theorem le_nlt {a b : Int32} : (a ≤ b) = ¬ (b < a) := by simp

def S194b (k : KK) (X : X6) (as : List Value) (m : xM) (Q : xQt) : Prop := match as with
  | [.ref o, .ref r, .int b] => (o = 86) ∧ (isR r) ∧ (m.1 90 4 ≤ 12) ∧ (vp_in b 6) ∧ (ix b < ix (m.1 90 3)) ∧ (EK k (m.1 90)) ∧ (E6 (ix (m.1 90 4)) X (m.1 r)) ∧ (∀ F, E6 (ix (m.1 90 4)) (aRnd k X b) F → F 48 = m.1 r 48 → Q none (xa m r F))
  | _ => False
theorem s194b (k : KK) (X : X6) (o : Nat) (r : Nat) (b : Int32) (m : xM) (Q : xQt) : S194b k X [.ref o, .ref r, .int b] m Q = ((o = 86) ∧ (isR r) ∧ (m.1 90 4 ≤ 12) ∧ (vp_in b 6) ∧ (ix b < ix (m.1 90 3)) ∧ (EK k (m.1 90)) ∧ (E6 (ix (m.1 90 4)) X (m.1 r)) ∧ (∀ F, E6 (ix (m.1 90 4)) (aRnd k X b) F → F 48 = m.1 r 48 → Q none (xa m r F))) := rfl
theorem t194b {G : xG} (k : KK) (X : X6) : ∀ as m Q, S194b k X as m Q → Tri G 194 as m Q := by
  intro as m Q h
  match as, h with
  | [.ref o, .ref r, .int b], h =>
    obtain ⟨rfl, hr, hn, hb, hbb, hk, hx, h⟩ := h
    obtain ⟨j, hj, rfl⟩ := vp_in_of hb (by decide)
    have hbj : ix (nI j) = j := clN (by omega)
    rw [hbj] at hbb
    refine tri_wp (T := TT [(190, S190b k X), (193, S193b k X)]) (ls := [.ref 86, .ref r, .int (nI j), .null, .null]) (TTc (t190b k X) (TTc (t193b k X) TTn)) c194 (by decide +kernel) (rt0 := none) rfl rfl (Nat.le_of_ble_eq_true rfl) rfl ?_
    simp (disch := omega) only [i194, wp_iinc, wpE0, wpE1, wpE2, wpE3, wpE4, wpE5, wpJ, okS, lt4S, popR, litS, Int32.reduceLT, Int32.reduceLE, List.getElem?_cons_zero, List.getElem?_cons_succ, Bool.false_eq_true, ↓reduceIte, Nat.reduceMod, Nat.reduceDiv, Nat.reduceAdd, Nat.reduceSub, Nat.reduceMul, Nat.reduceLeDiff, Nat.reduceEqDiff, Nat.reduceBEq, Int.reduceToNat, Int.reduceAdd, Int32.reduceOfInt, Int64.reduceOfInt, Int32.reduceToNatClampNeg, Int32.reduceOfNat, Bool.or_self, Bool.or_false, Bool.false_or, Bool.true_or, Bool.or_true, true_and, and_true, false_and, and_false, List.set_cons_zero, List.set_cons_succ, List.take_succ_cons, List.take_zero, List.drop_succ_cons, List.drop_zero, List.reverse_cons, List.reverse_nil, List.nil_append, List.cons_append, List.length_cons, List.length_nil, Option.toList_some, Option.toList_none, not_true_eq_false, not_false_eq_true, forall_const, true_implies, false_implies, nrw, TTS, s190b, s193b, shM, isRl, and01, bI_0, linS, nI_add, clN, inN, inLS, xa_1, xa_2, xa_xa, neR hr, upd_ne, shR hr, le_nlt, hr, hn, hb, hbb, hk, hx]
    have hho : xHo X j = m.1 r (4 * j + 0) := (hx.1 j hj).1
    have hsi : X.2.2.2.1 j = m.1 r (4 * j + 3) := (hx.1 j hj).2.2.2
    unfold aRnd at h
    rw [hbj] at h
    refine ⟨fun z1 => ⟨fun z2 => ?_, fun z2 => ?_⟩, fun z1 => ⟨fun z2 => ?_, fun z2 => ?_⟩⟩
    · rw [if_pos (hho.trans z1), if_neg z2] at h
      rw [Int32.add_zero, upd_id (f := upd (m.1 r) (4 * j + 0) 2) (i := 4 * j + 1) (upd_ne (by omega)), upd_id (f := upd (m.1 r) (4 * j + 0) 2) (i := 4 * j + 3) (upd_ne (by omega))]
      exact h _ (e_ho hx hj) (upd_ne (by omega))
    · have z3 := Classical.not_not.mp z2
      rw [if_pos (hho.trans z1), if_pos z3] at h
      have h9 := h _ (e_id hx hj z1) rfl
      rw [xa_id] at h9
      exact h9
    · rw [if_neg (fun q => z1 (hho ▸ q)), if_neg z2, hsi] at h
      exact h _ (e_si (e_ma (e_ho hx hj) hj) hj) (by simp (disch := omega) only [upd_ne])
    · have z3 := Classical.not_not.mp z2
      rw [if_neg (fun q => z1 (hho ▸ q)), if_pos z3] at h
      have h9 := h _ hx rfl
      rw [xa_id] at h9
      exact h9

/-- X stays small -/
def xOK (x : Int64) : Prop := 0 ≤ x.toInt ∧ x.toInt < 2147483647
def xOKs (s : Int32) (x : Int64) : Prop := s = 0 → xOK x
theorem zremL {z n : Int64} (hz : 0 ≤ z.toInt) (hn : 0 < n.toInt) : (z - z / n * n).toInt = z.toInt % n.toInt := by
  obtain ⟨a, ha, rfl⟩ := pk_lOf (x := z) (by rw [Int64.lt_iff_toInt_lt]; simpa using hz)
  obtain ⟨c, hc, rfl⟩ := pk_lOf (x := n) (by rw [Int64.lt_iff_toInt_lt]; simp; omega)
  rw [pk_lT hc] at hn
  rw [pk_lRem ha (by omega) hc, pk_lT ha, pk_lT hc, pk_lT (Nat.lt_of_le_of_lt (Nat.mod_le _ _) ha)]
  omega
theorem draw_ok {x : Int64} (h : xOK x) : xOK (aDraw x) := by
  unfold xOK at h
  have e1 : (x * 16807).toInt = x.toInt * 16807 := by
    rw [fb_mulL (by rw [show (16807 : Int64).toInt = 16807 from by decide]; omega) (by rw [show (16807 : Int64).toInt = 16807 from by decide]; omega)]
    rw [show (16807 : Int64).toInt = 16807 from by decide]
  have e2 := zremL (z := x * 16807) (n := 2147483647) (by rw [e1]; omega) (by decide)
  unfold xOK aDraw
  rw [e2, e1, show (2147483647 : Int64).toInt = 2147483647 from by decide]
  omega
theorem draw_rem {x : Int64} (h : xOK x) {n : Int64} (hn : 0 < n.toInt) (hn2 : n.toInt ≤ 1000) : 0 ≤ (aDraw x - aDraw x / n * n).toInt ∧ (aDraw x - aDraw x / n * n).toInt < n.toInt ∧ (aDraw x - aDraw x / n * n).toInt32.toInt = (aDraw x - aDraw x / n * n).toInt := by
  have h1 := draw_ok h
  unfold xOK at h1
  rw [zremL h1.1 hn]
  have e0 : 0 ≤ (aDraw x).toInt % n.toInt := Int.emod_nonneg _ (by omega)
  have e1 : (aDraw x).toInt % n.toInt < n.toInt := Int.emod_lt_of_pos _ hn
  refine ⟨e0, e1, ?_⟩
  rw [Int64.toInt_toInt32, zremL h1.1 hn, fb_bmod (by omega) (by omega)]
