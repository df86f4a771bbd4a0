theorem le_64m {wi sa st : Int32} {y : Int64} (h1 : 0 ≤ wi.toInt ∧ wi.toInt ≤ 40) (h2 : 0 ≤ sa.toInt ∧ sa.toInt ≤ 30) (h3 : 0 ≤ y.toInt) (h4 : y.toInt < 10) (h5 : y.toInt32.toInt = y.toInt) : ((wi.toInt64 + y) * sa.toInt64 ≤ st.toInt64) = ((wi + y.toInt32) * sa ≤ st) := by
  have e1 : (wi.toInt64 + y).toInt = wi.toInt + y.toInt := by
    rw [fb_addL (by rw [Int32.toInt_toInt64]; omega) (by rw [Int32.toInt_toInt64]; omega), Int32.toInt_toInt64]
  have e2 : (wi + y.toInt32).toInt = wi.toInt + y.toInt := by
    rw [fb_addI (by rw [h5]; omega) (by rw [h5]; omega), h5]
  have p1 : 0 ≤ (wi.toInt + y.toInt) * sa.toInt := Int.mul_nonneg (by omega) h2.1
  have p2 : (wi.toInt + y.toInt) * sa.toInt ≤ 49 * 30 := Int.mul_le_mul (by omega) h2.2 h2.1 (by omega)
  have e3 : ((wi.toInt64 + y) * sa.toInt64).toInt = (wi.toInt + y.toInt) * sa.toInt := by
    rw [fb_mulL (by rw [e1, Int32.toInt_toInt64]; omega) (by rw [e1, Int32.toInt_toInt64]; omega), e1, Int32.toInt_toInt64]
  have e4 : ((wi + y.toInt32) * sa).toInt = (wi.toInt + y.toInt) * sa.toInt := by
    rw [fb_mulI (by rw [e2]; omega) (by rw [e2]; omega), e2]
  apply propext
  rw [Int64.le_iff_toInt_le, Int32.le_iff_toInt_le, e3, e4, Int32.toInt_toInt64]
theorem e_bail {k : KK} {X : X6} {K f : Nat → Int32} {j : Nat} (hk : EK k K) (hx : E6 (ix (K 4)) X f) (hj : j < 6) (hbj : ix (nI j) = j) (hbb : j < ix (K 3)) (hh4 : f (4 * j + 0) = 4) : E6 (ix (K 4)) (aBail k X (nI j)) (upd (upd f (4 * j + 2) (if 0 ≤ f (4 * j + 2) - 5 * aAble k X (nI j) 0 - K (5 + 4 * j + 2) then f (4 * j + 2) - 5 * aAble k X (nI j) 0 - K (5 + 4 * j + 2) else 0)) (4 * j + 0) (if 0 < f (4 * j + 2) - 5 * aAble k X (nI j) 0 - K (5 + 4 * j + 2) then 4 else 0)) := by
  have hW : aBailW k X (nI j) = (if 0 < f (4 * j + 2) - 5 * aAble k X (nI j) 0 - K (5 + 4 * j + 2) then f (4 * j + 2) - 5 * aAble k X (nI j) 0 - K (5 + 4 * j + 2) else 0) := by
    unfold aBailW
    rw [hbj, (hx.1 j hj).2.2.1, (hk.2.1 j hbb).2.2.1]
  unfold aBail
  rw [hW, hbj, if_pos ((hx.1 j hj).1.trans hh4)]
  generalize f (4 * j + 2) - 5 * aAble k X (nI j) 0 - K (5 + 4 * j + 2) = z
  have e := pos_iff z
  by_cases z1 : 0 < z
  · have z2 := (e ▸ z1 : 0 ≤ z ∧ ¬ z = 0)
    rw [if_pos z1, if_pos z1, if_pos z2.1, if_neg z2.2]
    exact e_ho (e_wa hx hj) hj
  · rw [if_neg z1, if_neg z1, if_pos rfl]
    have ez : (if 0 ≤ z then z else 0) = 0 := by
      by_cases z2 : 0 ≤ z
      · rw [if_pos z2]
        exact Classical.not_not.mp fun q => z1 (e ▸ ⟨z2, q⟩)
      · rw [if_neg z2]
    rw [ez]
    exact e_ho (e_wa hx hj) hj

def S184b (k : KK) (X : X6) (s : Int32) (as : List Value) (m : xM) (Q : xQt) : Prop := match as with
  | [.ref o, .ref r, .int b, .int dw] => (o = 86) ∧ (isR r) ∧ (m.1 90 4 ≤ 12) ∧ (vp_in b 6) ∧ (ix b < ix (m.1 90 3)) ∧ (EK k (m.1 90)) ∧ (E6 (ix (m.1 90 4)) X (m.1 r)) ∧ (0 ≤ (m.1 90 (5 + 4 * ix b + 1)).toInt ∧ (m.1 90 (5 + 4 * ix b + 1)).toInt ≤ 30) ∧ (xOKs s (m.2 86 19)) ∧ (0 ≤ (m.1 90 1).toInt ∧ (m.1 90 1).toInt ≤ 40) ∧ ((s = 0) = (¬ dw = 0)) ∧ (∀ F, E6 (ix (m.1 90 4)) (aRide k X b s (m.2 86 19)).1 F → F 48 = m.1 r 48 → Q none (xa (xb m 86 (vp_updL (m.2 86) 19 (aRide k X b s (m.2 86 19)).2)) r F))
  | _ => False
theorem s184b (k : KK) (X : X6) (s : Int32) (o : Nat) (r : Nat) (b : Int32) (dw : Int32) (m : xM) (Q : xQt) : S184b k X s [.ref o, .ref r, .int b, .int dw] m Q = ((o = 86) ∧ (isR r) ∧ (m.1 90 4 ≤ 12) ∧ (vp_in b 6) ∧ (ix b < ix (m.1 90 3)) ∧ (EK k (m.1 90)) ∧ (E6 (ix (m.1 90 4)) X (m.1 r)) ∧ (0 ≤ (m.1 90 (5 + 4 * ix b + 1)).toInt ∧ (m.1 90 (5 + 4 * ix b + 1)).toInt ≤ 30) ∧ (xOKs s (m.2 86 19)) ∧ (0 ≤ (m.1 90 1).toInt ∧ (m.1 90 1).toInt ≤ 40) ∧ ((s = 0) = (¬ dw = 0)) ∧ (∀ F, E6 (ix (m.1 90 4)) (aRide k X b s (m.2 86 19)).1 F → F 48 = m.1 r 48 → Q none (xa (xb m 86 (vp_updL (m.2 86) 19 (aRide k X b s (m.2 86 19)).2)) r F))) := rfl
theorem t184b {G : xG} (k : KK) (X : X6) (s : Int32) : ∀ as m Q, S184b k X s as m Q → Tri G 184 as m Q := by
  intro as m Q h
  match as, h with
  | [.ref o, .ref r, .int b, .int dw], h =>
    obtain ⟨rfl, hr, hn, hb, hbb, hk, hx, hsa, hxo, hwi, hs, h⟩ := h
    obtain ⟨j, hj, rfl⟩ := vp_in_of hb (by decide)
    have hbj : ix (nI j) = j := clN (by omega)
    rw [hbj] at hbb
    refine tri_vc (ls := [.ref 86, .ref r, .int (nI j), .int dw, .null, .null, .null]) (by decide +kernel) rfl (Nat.le_of_ble_eq_true rfl) ?_
    have zn : ix (m.1 90 4) ≤ 12 := ix_max (k := 12) hn (by decide)
    rw [hbj] at hsa
    refine vc_cut 75 [.ref 86, .ref r, .int (nI j), .int dw, .int (nI (4 * j)), .null, .null] (fun m1 => m1.1 = m.1 ∧ ∀ F, E6 (ix (m.1 90 4)) (aBail k X (nI j)) F → F 48 = m.1 r 48 → Q none (xa m1 r F)) (vc_wp (T := TT [(185, S185), (186, S186), (187, S187b k X), (188, S188b k X), (178, S178b k X)]) (TTc (t185) (TTc (t186) (TTc (t187b k X) (TTc (t188b k X) (TTc (t178b k X) TTn))))) (fun p => p == 75) (rt0 := none) rfl c184 rfl ?_) ?_
    · simp (disch := omega) only [i184, wp_iinc, wpE0, wpE1, wpE2, wpE3, wpE4, wpE5, wpJ, okS, lt4S, popR, litS, Int32.reduceLT, Int32.reduceLE, List.getElem?_cons_zero, List.getElem?_cons_succ, Bool.false_eq_true, ↓reduceIte, Nat.reduceMod, Nat.reduceDiv, Nat.reduceAdd, Nat.reduceSub, Nat.reduceMul, Nat.reduceLeDiff, Nat.reduceEqDiff, Nat.reduceBEq, Int.reduceToNat, Int.reduceAdd, Int32.reduceOfInt, Int64.reduceOfInt, Int32.reduceToNatClampNeg, Int32.reduceOfNat, Bool.or_self, Bool.or_false, Bool.false_or, Bool.true_or, Bool.or_true, true_and, and_true, false_and, and_false, List.set_cons_zero, List.set_cons_succ, List.take_succ_cons, List.take_zero, List.drop_succ_cons, List.drop_zero, List.reverse_cons, List.reverse_nil, List.nil_append, List.cons_append, List.length_cons, List.length_nil, Option.toList_some, Option.toList_none, not_true_eq_false, not_false_eq_true, forall_const, true_implies, false_implies, nrw, TTS, s185, s186, s187b, s188b, s178b, i185, i186, shM, isRl, and01, bI_0, linS, nI_add, clN, inN, inLS, xa_1, xa_2, xa_xa, neR hr, upd_ne, shR hr, xb_1, xb_2, xb_xa, updL_1, litM, i2lS, le_nlt, hr, hn, hb, hbb, hk, hx, hsa, hxo, hwi, hs, subS, not_true_eq_false, not_false_eq_true, and_true, true_and, and_false, false_and, and_self, or_true, true_or, or_false, false_or, ↓reduceIte, if_true, if_false, eq_self]
      unfold aRide at h
      rw [hbj] at h
      refine ⟨fun z1 => ?_, fun z1 => ?_⟩
      · rw [if_neg (c := s = 0) (by rw [hs]; exact fun q => q z1)] at h
        simp only [xb_id19] at h
        exact ⟨fun _ => h, fun zz => absurd z1 zz⟩
      · rw [if_pos (c := s = 0) (by rw [hs]; exact z1)] at h
        have hd := draw_rem (hxo (by rw [hs]; exact z1)) (n := 10) (by decide) (by decide)
        have hc : (((kWi k).toInt64 + (aDraw (m.2 86 19) - aDraw (m.2 86 19) / 10 * 10)) * (kSa k j).toInt64 ≤ (aIn k X (nI j) + 5 * kBe k j - xWa X j).toInt64) = ((m.1 90 1 + (aDraw (m.2 86 19) - aDraw (m.2 86 19) / 10 * 10).toInt32) * m.1 90 (5 + 4 * j + 1) ≤ aIn k X (nI j) + 5 * m.1 90 (5 + 4 * j + 0) - m.1 r (4 * j + 2)) := by
          rw [hk.1.2.1, (hk.2.1 j hbb).1, (hk.2.1 j hbb).2.1, (hx.1 j hj).2.2.1]
          exact le_64m hwi hsa hd.1 hd.2.1 hd.2.2
        refine ⟨fun zz => absurd zz z1, fun _ => ⟨fun z3 => ?_, fun z3 => ?_⟩⟩
        · rw [if_pos (c := (((kWi k).toInt64 + (aDraw (m.2 86 19) - aDraw (m.2 86 19) / 10 * 10)) * (kSa k j).toInt64 ≤ (aIn k X (nI j) + 5 * kBe k j - xWa X j).toInt64)) (by rw [hc, le_nlt]; exact z3)] at h
          exact h
        · rw [if_neg (c := (((kWi k).toInt64 + (aDraw (m.2 86 19) - aDraw (m.2 86 19) / 10 * 10)) * (kSa k j).toInt64 ≤ (aIn k X (nI j) + 5 * kBe k j - xWa X j).toInt64)) (by rw [hc, le_nlt]; exact z3)] at h
          exact h
    · rintro m1 ⟨e1, h1⟩
      refine vc_wp (T := TT [(185, S185), (186, S186), (187, S187b k X), (188, S188b k X), (178, S178b k X)]) (TTc (t185) (TTc (t186) (TTc (t187b k X) (TTc (t188b k X) (TTc (t178b k X) TTn))))) (fun _ => false) (rt0 := none) rfl (ckl_drop 48 c184) rfl ?_
      simp (disch := omega) only [List.drop, i184, wp_iinc, wpE0, wpE1, wpE2, wpE3, wpE4, wpE5, wpJ, okS, lt4S, popR, litS, Int32.reduceLT, Int32.reduceLE, List.getElem?_cons_zero, List.getElem?_cons_succ, Bool.false_eq_true, ↓reduceIte, Nat.reduceMod, Nat.reduceDiv, Nat.reduceAdd, Nat.reduceSub, Nat.reduceMul, Nat.reduceLeDiff, Nat.reduceEqDiff, Nat.reduceBEq, Int.reduceToNat, Int.reduceAdd, Int32.reduceOfInt, Int64.reduceOfInt, Int32.reduceToNatClampNeg, Int32.reduceOfNat, Bool.or_self, Bool.or_false, Bool.false_or, Bool.true_or, Bool.or_true, true_and, and_true, false_and, and_false, List.set_cons_zero, List.set_cons_succ, List.take_succ_cons, List.take_zero, List.drop_succ_cons, List.drop_zero, List.reverse_cons, List.reverse_nil, List.nil_append, List.cons_append, List.length_cons, List.length_nil, Option.toList_some, Option.toList_none, not_true_eq_false, not_false_eq_true, forall_const, true_implies, false_implies, nrw, TTS, s185, s186, s187b, s188b, s178b, i185, i186, shM, isRl, and01, bI_0, linS, nI_add, clN, inN, inLS, xa_1, xa_2, xa_xa, neR hr, upd_ne, shR hr, xb_1, xb_2, xb_xa, updL_1, litM, i2lS, le_nlt, hr, hn, hb, hbb, hk, hx, hsa, hxo, hwi, hs, subS, not_true_eq_false, not_false_eq_true, and_true, true_and, and_false, false_and, and_self, or_true, true_or, or_false, false_or, ↓reduceIte, if_true, if_false, eq_self, e1]
      have key := e_bail (K := m.1 90) (f := m.1 r) hk hx hj hbj hbb
      refine ⟨fun z0 => ⟨fun z1 => ⟨fun z2 => ?_, fun z2 => ?_⟩, fun z1 => ⟨fun z2 => ?_, fun z2 => ?_⟩⟩, fun z0 => ?_⟩
      · have key := key z0
        rw [if_pos (c := 0 ≤ m.1 r (4 * j + 2) - 5 * aAble k X (nI j) 0 - m.1 90 (5 + 4 * j + 2)) (by rw [le_nlt]; exact z1), if_pos (c := 0 < m.1 r (4 * j + 2) - 5 * aAble k X (nI j) 0 - m.1 90 (5 + 4 * j + 2)) z2] at key
        exact h1 _ key (by simp (disch := omega) only [upd_ne])
      · have key := key z0
        rw [if_pos (c := 0 ≤ m.1 r (4 * j + 2) - 5 * aAble k X (nI j) 0 - m.1 90 (5 + 4 * j + 2)) (by rw [le_nlt]; exact z1), if_neg (c := 0 < m.1 r (4 * j + 2) - 5 * aAble k X (nI j) 0 - m.1 90 (5 + 4 * j + 2)) z2] at key
        exact h1 _ key (by simp (disch := omega) only [upd_ne])
      · have key := key z0
        rw [if_neg (c := 0 ≤ m.1 r (4 * j + 2) - 5 * aAble k X (nI j) 0 - m.1 90 (5 + 4 * j + 2)) (by rw [le_nlt]; exact z1), if_pos (c := 0 < m.1 r (4 * j + 2) - 5 * aAble k X (nI j) 0 - m.1 90 (5 + 4 * j + 2)) z2] at key
        exact h1 _ key (by simp (disch := omega) only [upd_ne])
      · have key := key z0
        rw [if_neg (c := 0 ≤ m.1 r (4 * j + 2) - 5 * aAble k X (nI j) 0 - m.1 90 (5 + 4 * j + 2)) (by rw [le_nlt]; exact z1), if_neg (c := 0 < m.1 r (4 * j + 2) - 5 * aAble k X (nI j) 0 - m.1 90 (5 + 4 * j + 2)) z2] at key
        exact h1 _ key (by simp (disch := omega) only [upd_ne])
      · unfold aBail at h1
        rw [hbj, if_neg (c := xHo X j = 4) (fun q => z0 ((hx.1 j hj).1.symm.trans q))] at h1
        have h9 := h1 _ hx rfl
        rw [← e1, xa_id] at h9
        exact h9

theorem aT1_eq (k : KK) (X : X6) (b s : Int32) (x : Int64) : aT1 k X b s x = (if xHo X (ix b) = 1 then aSid k X b s x else if xHo X (ix b) = 2 ∨ xHo X (ix b) = 3 then (aRnd k X b, x) else aRide k X b s x) := by
  unfold aT1 aSid aRnd
  by_cases z1 : xHo X (ix b) = 1
  · rw [if_pos z1, if_pos z1]
  · rw [if_neg z1, if_neg z1]
    by_cases z2 : xHo X (ix b) = 2
    · have z3 : ¬ xHo X (ix b) = 3 := by rw [z2]; decide
      rw [if_pos z2, if_pos (Or.inl z2), if_neg z3]
      split <;> rfl
    · rw [if_neg z2]
      by_cases z3 : xHo X (ix b) = 3
      · rw [if_pos z3, if_pos (Or.inr z3), if_pos z3]
      · rw [if_neg z3, if_neg (fun q => q.elim z2 z3)]
