def S66 (as : List Value) (m : xM) (Q : xQt) : Prop := match as with
  | [.ref c, .int b, .ref d] => (isC c) ∧ (vp_in b 6) ∧ (m.1 c 5 ≤ 12) ∧ (isD d) ∧ Q (none) (s6 (xb m d (vp_updL (m.2 d) 1 (aTick (kk m c) (g6 m c) b (m.1 d 0) (m.2 d 1)).2)) c (aTick (kk m c) (g6 m c) b (m.1 d 0) (m.2 d 1)).1)
  | _ => False
theorem s66 (c : Nat) (b : Int32) (d : Nat) (m : xM) (Q : xQt) : S66 [.ref c, .int b, .ref d] m Q = ((isC c) ∧ (vp_in b 6) ∧ (m.1 c 5 ≤ 12) ∧ (isD d) ∧ Q (none) (s6 (xb m d (vp_updL (m.2 d) 1 (aTick (kk m c) (g6 m c) b (m.1 d 0) (m.2 d 1)).2)) c (aTick (kk m c) (g6 m c) b (m.1 d 0) (m.2 d 1)).1)) := rfl
theorem t66 {G : xG} : ∀ as m Q, S66 as m Q → Tri G 66 as m Q := by
  intro as m Q h
  match as, h with
  | [.ref c, .int b, .ref d], h =>
    obtain ⟨hc, hb, hn, hd, h⟩ := h
    refine tri_wp (T := TT [(67, S67), (70, S70), (73, S73), (75, S75), (77, S77), (80, S80b)]) (ls := [.ref c, .int b, .ref d, .null, .null]) (TTc t67 (TTc t70 (TTc t73 (TTc t75 (TTc t77 (TTc t80b TTn)))))) c66 (by decide +kernel) (rt0 := none) rfl rfl (Nat.le_of_ble_eq_true rfl) rfl ?_
    simp only [i66, wp_iinc, wpE0, wpE1, wpE2, wpE3, wpE4, wpE5, wpJ, okS, lt4S, popR, litS, Int32.reduceLT, Int32.reduceLE, List.getElem?_cons_zero, List.getElem?_cons_succ, Bool.false_eq_true, ↓reduceIte, Nat.reduceMod, Nat.reduceDiv, Nat.reduceAdd, Nat.reduceSub, Nat.reduceMul, Nat.reduceLeDiff, Nat.reduceEqDiff, Nat.reduceBEq, Int.reduceToNat, Int.reduceAdd, Int32.reduceOfInt, Int64.reduceOfInt, Int32.reduceToNatClampNeg, Int32.reduceOfNat, Bool.or_self, Bool.or_false, Bool.false_or, Bool.true_or, Bool.or_true, true_and, and_true, false_and, and_false, List.set_cons_zero, List.set_cons_succ, List.take_succ_cons, List.take_zero, List.drop_succ_cons, List.drop_zero, List.reverse_cons, List.reverse_nil, List.nil_append, List.cons_append, List.length_cons, List.length_nil, Option.toList_some, Option.toList_none, not_true_eq_false, not_false_eq_true, forall_const, true_implies, false_implies, nrw, TTS, s67, s70, s73, s75, s77, s80b, shC hc, and01, isCl, Int32.reduceOfInt, Int.reduceAdd, kk_xa, kk_s6, kk_xb, g6_xa, g6_s6, g6_xb, s6_xa, s6_s6, xb_s6, xb_xa, s6S, xa_1, xa_2, xb_1, xb_2, Nat.add_left_cancel_iff, Nat.reduceEqDiff, i2lS, show ∀ j, (c = c + (j + 1)) = False from fun j => by simp, hc, hb, hn, hd]
    unfold aTick aT1 at h
    refine ⟨fun q1 => ?_, fun q1 => ⟨fun q2 => ?_, fun q2 => ⟨fun q3 => ?_, fun q3 => ?_⟩⟩⟩
    · rw [if_pos (c := xHo (g6 m c) (ix b) = 1) q1] at h
      refine ⟨fun z => ?_, fun z => ?_⟩
      · rw [if_pos z] at h
        simp only [xb_id] at h
        exact h
      · rw [if_neg z] at h
        exact h
    · rw [if_neg (c := xHo (g6 m c) (ix b) = 1) q1, if_pos (c := xHo (g6 m c) (ix b) = 2) q2] at h
      refine ⟨fun z => ?_, fun z => ?_⟩
      · rw [if_pos z] at h
        simp only [xb_id] at h
        exact h
      · rw [if_neg z] at h
        simp only [xb_id] at h
        exact h
    · rw [if_neg (c := xHo (g6 m c) (ix b) = 1) q1, if_neg (c := xHo (g6 m c) (ix b) = 2) q2, if_pos (c := xHo (g6 m c) (ix b) = 3) q3] at h
      simp only [xb_id] at h
      refine ⟨fun z => ?_, fun z => ?_⟩
      · rw [if_pos z] at h
        exact h
      · rw [if_neg z] at h
        exact h
    · rw [if_neg (c := xHo (g6 m c) (ix b) = 1) q1, if_neg (c := xHo (g6 m c) (ix b) = 2) q2, if_neg (c := xHo (g6 m c) (ix b) = 3) q3] at h
      exact h

/-- a tick of the first n boats -/
def aBoats (k : KK) (s : Int32) : Nat → X6 × Int64 → X6 × Int64
  | 0, p => p
  | n + 1, p => aTick k (aBoats k s n p).1 (nI n) s (aBoats k s n p).2
/-- the memory with a club's six rows and a draw's X -/
def sX (m : xM) (c d : Nat) (p : X6 × Int64) : xM := s6 (xb m d (vp_updL (m.2 d) 1 p.2)) c p.1
theorem xb_xb (m : xM) (d : Nat) (f g : Nat → Int64) : xb (xb m d f) d g = xb m d g := by
  refine Prod.ext rfl (funext fun q => ?_)
  show (if q = d then g else if q = d then f else m.2 q) = if q = d then g else m.2 q
  by_cases h : q = d <;> simp [h]
theorem updL_updL (f : Nat → Int64) (j : Nat) (x y : Int64) : vp_updL (vp_updL f j x) j y = vp_updL f j y := by
  funext i
  simp only [vp_updL]
  by_cases h : i = j <;> simp [h]
theorem updL_at (f : Nat → Int64) (j : Nat) (x : Int64) : vp_updL f j x j = x := by simp [vp_updL]
theorem sXS (m : xM) (c d : Nat) (p : X6 × Int64) : kk (sX m c d p) c = kk m c ∧ g6 (sX m c d p) c = p.1 ∧ (sX m c d p).2 d 1 = p.2 ∧ (sX m c d p).1 c = m.1 c := by
  refine ⟨?_, ?_, ?_, ?_⟩
  · simp only [sX, kk_s6, kk_xb]
  · simp only [sX, g6_s6]
  · simp only [sX, s6S, xb_2, if_pos]; exact updL_at _ _ _
  · simp only [sX, s6S, xb_1]
theorem sX_sX (m : xM) (c d : Nat) (p q : X6 × Int64) : sX (sX m c d p) c d q = sX m c d q := by
  simp only [sX, xb_s6, s6_s6, xb_xb, s6S, xb_2, if_pos, updL_updL]
theorem sX_id (m : xM) (c d : Nat) : sX m c d (g6 m c, m.2 d 1) = m := by simp only [sX, xb_id, s6_g6]
theorem sX_d {m : xM} {c d : Nat} {p : X6 × Int64} (hc : isC c) (hd : isD d) : (sX m c d p).1 d = m.1 d := by rw [sX, s6D hc hd, xb_1]

def S66b (as : List Value) (m : xM) (Q : xQt) : Prop := match as with
  | [.ref c, .int b, .ref d] => (isC c) ∧ (vp_in b 6) ∧ (m.1 c 5 ≤ 12) ∧ (isD d) ∧ Q (none) (sX m c d (aTick (kk m c) (g6 m c) b (m.1 d 0) (m.2 d 1)))
  | _ => False
theorem s66b (c : Nat) (b : Int32) (d : Nat) (m : xM) (Q : xQt) : S66b [.ref c, .int b, .ref d] m Q = ((isC c) ∧ (vp_in b 6) ∧ (m.1 c 5 ≤ 12) ∧ (isD d) ∧ Q (none) (sX m c d (aTick (kk m c) (g6 m c) b (m.1 d 0) (m.2 d 1)))) := rfl
theorem t66b {G : xG} : ∀ as m Q, S66b as m Q → Tri G 66 as m Q := by
  intro as m Q h
  match as, h with
  | [.ref c, .int b, .ref d], h =>
    obtain ⟨hc, hb, hn, hd, h⟩ := h
    exact t66 [.ref c, .int b, .ref d] m Q ⟨hc, hb, hn, hd, by exact h⟩

def S65 (as : List Value) (m : xM) (Q : xQt) : Prop := match as with
  | [.ref c, .ref d] => (isC c) ∧ (m.1 c 5 ≤ 12) ∧ (isD d) ∧ (m.1 c 4 ≤ 6) ∧ Q (none) (xa (sX m c d (aBoats (kk m c) (m.1 d 0) (ix (m.1 c 4)) (g6 m c, m.2 d 1))) c (upd (m.1 c) 3 (m.1 c 3 + 1)))
  | _ => False
theorem s65 (c : Nat) (d : Nat) (m : xM) (Q : xQt) : S65 [.ref c, .ref d] m Q = ((isC c) ∧ (m.1 c 5 ≤ 12) ∧ (isD d) ∧ (m.1 c 4 ≤ 6) ∧ Q (none) (xa (sX m c d (aBoats (kk m c) (m.1 d 0) (ix (m.1 c 4)) (g6 m c, m.2 d 1))) c (upd (m.1 c) 3 (m.1 c 3 + 1)))) := rfl
theorem t65 {G : xG} : ∀ as m Q, S65 as m Q → Tri G 65 as m Q := by
  intro as m Q h
  match as, h with
  | [.ref c, .ref d], h =>
    obtain ⟨hc, hn, hd, hB, h⟩ := h
    refine tri_vc (ls := [.ref c, .ref d, .null]) (by decide +kernel) rfl (Nat.le_of_ble_eq_true rfl) ?_
    refine vc_seq (pc1 := 2) (ls1 := [.ref c, .ref d, .int 0]) (m1 := m) (vc_wp (T := TT [(66, S66b)]) (TTc t66b TTn) (fun p => p == 2) (rt0 := none) rfl c65 rfl ?_) ?_
    · simp only [i65, wp_iinc, wpE0, wpE1, wpE2, wpE3, wpE4, wpE5, wpJ, okS, lt4S, popR, litS, Int32.reduceLT, Int32.reduceLE, List.getElem?_cons_zero, List.getElem?_cons_succ, Bool.false_eq_true, ↓reduceIte, Nat.reduceMod, Nat.reduceDiv, Nat.reduceAdd, Nat.reduceSub, Nat.reduceMul, Nat.reduceLeDiff, Nat.reduceEqDiff, Nat.reduceBEq, Int.reduceToNat, Int.reduceAdd, Int32.reduceOfInt, Int64.reduceOfInt, Int32.reduceToNatClampNeg, Int32.reduceOfNat, Bool.or_self, Bool.or_false, Bool.false_or, Bool.true_or, Bool.or_true, true_and, and_true, false_and, and_false, List.set_cons_zero, List.set_cons_succ, List.take_succ_cons, List.take_zero, List.drop_succ_cons, List.drop_zero, List.reverse_cons, List.reverse_nil, List.nil_append, List.cons_append, List.length_cons, List.length_nil, Option.toList_some, Option.toList_none, not_true_eq_false, not_false_eq_true, forall_const, true_implies, false_implies, nrw, TTS, s66b, shC hc, and01, isCl, sXS, hc, hn, hd, hB, subS, true_and, and_true, true_or, or_false]
    have e0 : VC G 65 Q (fun _ _ _ _ => False) 2 ((fun i => [.ref c, .ref d, .int (nI i)]) 0) [] ((fun i => sX m c d (aBoats (kk m c) (m.1 d 0) i (g6 m c, m.2 d 1))) 0) := by
      refine vc_for (ix (m.1 c 4)) (fun i => [.ref c, .ref d, .int (nI i)]) (fun i => sX m c d (aBoats (kk m c) (m.1 d 0) i (g6 m c, m.2 d 1))) (fun i hi => ?_) ?_
      · refine vc_wp (T := TT [(66, S66b)]) (TTc t66b TTn) (fun _ => false) (rt0 := none) rfl (ckl_drop 2 c65) rfl ?_
        have hi2 : ¬ ix (m.1 c 4) ≤ i := by omega
        have hi12 : i < 6 := by have := ix_max (k := 6) hB (by decide); omega
        have hi3 : vp_in (nI i) 6 := xin_nI hi12 (by omega)
        simp only [List.drop, i65, wp_iinc, wpE0, wpE1, wpE2, wpE3, wpE4, wpE5, wpJ, okS, lt4S, popR, litS, Int32.reduceLT, Int32.reduceLE, List.getElem?_cons_zero, List.getElem?_cons_succ, Bool.false_eq_true, ↓reduceIte, Nat.reduceMod, Nat.reduceDiv, Nat.reduceAdd, Nat.reduceSub, Nat.reduceMul, Nat.reduceLeDiff, Nat.reduceEqDiff, Nat.reduceBEq, Int.reduceToNat, Int.reduceAdd, Int32.reduceOfInt, Int64.reduceOfInt, Int32.reduceToNatClampNeg, Int32.reduceOfNat, Bool.or_self, Bool.or_false, Bool.false_or, Bool.true_or, Bool.or_true, true_and, and_true, false_and, and_false, List.set_cons_zero, List.set_cons_succ, List.take_succ_cons, List.take_zero, List.drop_succ_cons, List.drop_zero, List.reverse_cons, List.reverse_nil, List.nil_append, List.cons_append, List.length_cons, List.length_nil, Option.toList_some, Option.toList_none, not_true_eq_false, not_false_eq_true, forall_const, true_implies, false_implies, nrw, TTS, s66b, shC hc, and01, isCl, sXS, hc, hn, hd, hB, subS, sX_sX, sX_d hc hd, ix_le _ (show i < 2 ^ 31 by omega), hi2, hi3, not_true_eq_false, not_false_eq_true, and_true, true_and, and_false, false_and, and_self, or_true, true_or, or_false, false_or, ↓reduceIte, if_true, if_false, eq_self, nI_1, aBoats]
      · refine vc_wp (T := TT [(66, S66b)]) (TTc t66b TTn) (fun _ => false) (rt0 := none) rfl (ckl_drop 2 c65) rfl ?_
        have hi2 : ix (m.1 c 4) ≤ ix (m.1 c 4) := Nat.le_refl _
        have hi12 : ix (m.1 c 4) < 2 ^ 31 := by have := ix_max (k := 6) hB (by decide); omega
        simp only [List.drop, i65, wp_iinc, wpE0, wpE1, wpE2, wpE3, wpE4, wpE5, wpJ, okS, lt4S, popR, litS, Int32.reduceLT, Int32.reduceLE, List.getElem?_cons_zero, List.getElem?_cons_succ, Bool.false_eq_true, ↓reduceIte, Nat.reduceMod, Nat.reduceDiv, Nat.reduceAdd, Nat.reduceSub, Nat.reduceMul, Nat.reduceLeDiff, Nat.reduceEqDiff, Nat.reduceBEq, Int.reduceToNat, Int.reduceAdd, Int32.reduceOfInt, Int64.reduceOfInt, Int32.reduceToNatClampNeg, Int32.reduceOfNat, Bool.or_self, Bool.or_false, Bool.false_or, Bool.true_or, Bool.or_true, true_and, and_true, false_and, and_false, List.set_cons_zero, List.set_cons_succ, List.take_succ_cons, List.take_zero, List.drop_succ_cons, List.drop_zero, List.reverse_cons, List.reverse_nil, List.nil_append, List.cons_append, List.length_cons, List.length_nil, Option.toList_some, Option.toList_none, not_true_eq_false, not_false_eq_true, forall_const, true_implies, false_implies, nrw, TTS, s66b, shC hc, and01, isCl, sXS, hc, hn, hd, hB, subS, ix_le _ hi12, hi2, not_true_eq_false, not_false_eq_true, and_true, true_and, and_false, false_and, and_self, or_true, true_or, or_false, false_or, ↓reduceIte, if_true, if_false, eq_self]
        exact h
    simp only [aBoats, sX_id] at e0
    exact e0
