def S185 (as : List Value) (m : xM) (Q : xQt) : Prop := match as with
  | [.ref o, .int a] => wp (fun _ _ _ _ => False) (fun _ => false) Q (some .int) (TT []) none i185 [.ref o, .int a] [] m
  | _ => False
theorem s185 (o : Nat) (a : Int32) (m : xM) (Q : xQt) : S185 [.ref o, .int a] m Q = wp (fun _ _ _ _ => False) (fun _ => false) Q (some .int) (TT []) none i185 [.ref o, .int a] [] m := rfl
theorem t185 {G : xG} : ∀ as m Q, S185 as m Q → Tri G 185 as m Q := by
  intro as m Q h
  match as, h with
  | [.ref o, .int a], h => exact tri_wp (T := TT []) (ls := [.ref o, .int a]) TTn c185 (by decide +kernel) (rt0 := some .int) rfl rfl (Nat.le_of_ble_eq_true rfl) rfl h

def aSid (k : KK) (X : X6) (b s : Int32) (x : Int64) : X6 × Int64 := if aLever k X b < aNeed k X b then (aFill k X b, x) else aUp k X b s x
theorem litM : ((2147483647 : Int64) = 0) = False ∧ ((100 : Int64) = 0) = False ∧ ((10 : Int64) = 0) = False := by simp
theorem updL_1 (f : Nat → Int64) (j : Nat) (x : Int64) : vp_updL f j x j = x := by simp [vp_updL]
theorem xb_id19 (m : xM) : xb m 86 (vp_updL (m.2 86) 19 (m.2 86 19)) = m := by
  refine Prod.ext rfl (funext fun q => ?_)
  show (if q = 86 then _ else m.2 q) = m.2 q
  by_cases h : q = 86
  · subst h
    rw [if_pos rfl]
    funext i
    simp only [vp_updL]
    by_cases hi : i = 19
    · subst hi; simp
    · rw [if_neg hi]
  · rw [if_neg h]
theorem anti32 {a b : Int32} (h1 : ¬ a < b) (h2 : ¬ b < a) : a = b := by
  rw [Int32.lt_iff_toInt_lt] at h1 h2
  rw [← Int32.toInt_inj]
  omega
theorem e_fill {k : KK} {X : X6} {K f : Nat → Int32} {j : Nat} (hk : EK k K) (hx : E6 (ix (K 4)) X f) (hj : j < 6) (hbj : ix (nI j) = j) (hbb : j < ix (K 3)) (hh1 : f (4 * j + 0) = 1) (hmu : K 2 = 0 ∨ K 2 = 1) : E6 (ix (K 4)) (aFill k X (nI j)) (upd (upd f (4 * j + 1) (if f (4 * j + 1) + 20 - K (5 + 4 * j + 3) < 100 then f (4 * j + 1) + 20 - K (5 + 4 * j + 3) else 100)) (4 * j + 0) (if f (4 * j + 1) + 20 - K (5 + 4 * j + 3) < 100 then 1 else if K 2 = 1 then 3 else 2)) := by
  have hM : aFillM k X (nI j) = (if f (4 * j + 1) + 20 - K (5 + 4 * j + 3) < 100 then f (4 * j + 1) + 20 - K (5 + 4 * j + 3) else 100) := by
    unfold aFillM
    rw [hbj, (hx.1 j hj).2.1, (hk.2.1 j hbb).2.2.2]
  unfold aFill
  rw [hM, hbj, hk.1.2.2.1]
  by_cases zl : f (4 * j + 1) + 20 - K (5 + 4 * j + 3) < 100
  · rw [if_pos zl, if_pos zl, if_neg (fun q => by rw [q] at zl; exact absurd zl (by decide)), upd_id (f := upd f (4 * j + 1) _) (i := 4 * j + 0) ((upd_ne (by omega)).trans hh1)]
    exact e_ma hx hj
  · rw [if_neg zl, if_neg zl, if_pos rfl]
    have ev : (if K 2 = 0 then (2 : Int32) else 3) = (if K 2 = 1 then 3 else 2) := by rcases hmu with h | h <;> rw [h] <;> decide
    rw [ev]
    exact e_ho (e_ma hx hj) hj
theorem le_64 {a : Int32} {y : Int64} (h : y.toInt32.toInt = y.toInt) : (a.toInt64 ≤ y) = (a ≤ y.toInt32) := by
  apply propext
  rw [Int64.le_iff_toInt_le, Int32.le_iff_toInt_le, h, Int32.toInt_toInt64]

def S189b (k : KK) (X : X6) (s : Int32) (as : List Value) (m : xM) (Q : xQt) : Prop := match as with
  | [.ref o, .ref r, .int b, .int dw] => (o = 86) ∧ (isR r) ∧ (m.1 90 4 ≤ 12) ∧ (vp_in b 6) ∧ (ix b < ix (m.1 90 3)) ∧ (EK k (m.1 90)) ∧ (E6 (ix (m.1 90 4)) X (m.1 r)) ∧ (m.1 r (4 * ix b + 0) = 1) ∧ (m.1 90 2 = 0 ∨ m.1 90 2 = 1) ∧ (xOKs s (m.2 86 19)) ∧ (0 ≤ (m.1 90 1).toInt ∧ (m.1 90 1).toInt ≤ 40) ∧ ((s = 0) = (¬ dw = 0)) ∧ (∀ F, E6 (ix (m.1 90 4)) (aSid k X b s (m.2 86 19)).1 F → F 48 = m.1 r 48 → Q none (xa (xb m 86 (vp_updL (m.2 86) 19 (aSid k X b s (m.2 86 19)).2)) r F))
  | _ => False
theorem s189b (k : KK) (X : X6) (s : Int32) (o : Nat) (r : Nat) (b : Int32) (dw : Int32) (m : xM) (Q : xQt) : S189b k X s [.ref o, .ref r, .int b, .int dw] m Q = ((o = 86) ∧ (isR r) ∧ (m.1 90 4 ≤ 12) ∧ (vp_in b 6) ∧ (ix b < ix (m.1 90 3)) ∧ (EK k (m.1 90)) ∧ (E6 (ix (m.1 90 4)) X (m.1 r)) ∧ (m.1 r (4 * ix b + 0) = 1) ∧ (m.1 90 2 = 0 ∨ m.1 90 2 = 1) ∧ (xOKs s (m.2 86 19)) ∧ (0 ≤ (m.1 90 1).toInt ∧ (m.1 90 1).toInt ≤ 40) ∧ ((s = 0) = (¬ dw = 0)) ∧ (∀ F, E6 (ix (m.1 90 4)) (aSid k X b s (m.2 86 19)).1 F → F 48 = m.1 r 48 → Q none (xa (xb m 86 (vp_updL (m.2 86) 19 (aSid k X b s (m.2 86 19)).2)) r F))) := rfl
theorem t189b {G : xG} (k : KK) (X : X6) (s : Int32) : ∀ as m Q, S189b k X s as m Q → Tri G 189 as m Q := by
  intro as m Q h
  match as, h with
  | [.ref o, .ref r, .int b, .int dw], h =>
    obtain ⟨rfl, hr, hn, hb, hbb, hk, hx, hh1, hmu, hxo, hwi, hs, h⟩ := h
    obtain ⟨j, hj, rfl⟩ := vp_in_of hb (by decide)
    have hbj : ix (nI j) = j := clN (by omega)
    rw [hbj] at hbb
    refine tri_vc (ls := [.ref 86, .ref r, .int (nI j), .int dw, .null, .null]) (by decide +kernel) rfl (Nat.le_of_ble_eq_true rfl) ?_
    have zn : ix (m.1 90 4) ≤ 12 := ix_max (k := 12) hn (by decide)
    rw [hbj] at hh1
    refine vc_cut 60 [.ref 86, .ref r, .int (nI j), .int dw, .null, .null] (fun m1 => ¬ aLever k X (nI j) < aNeed k X (nI j) ∧ ∃ F1, m1 = xa m r F1 ∧ E6 (ix (m.1 90 4)) (aUp1 k X (nI j)) F1 ∧ F1 48 = m.1 r 48) (vc_wp (T := TT [(190, S190b k X), (193, S193b k X), (186, S186), (179, S179), (185, S185), (191, S191b k (aUp1 k X (nI j))), (178, S178b k (aUp1 k X (nI j)))]) (TTc (t190b k X) (TTc (t193b k X) (TTc (t186) (TTc (t179) (TTc (t185) (TTc (t191b k (aUp1 k X (nI j))) (TTc (t178b k (aUp1 k X (nI j))) TTn))))))) (fun p => p == 60) (rt0 := none) rfl c189 rfl ?_) ?_
    · simp (disch := omega) only [i189, wp_iinc, wpE0, wpE1, wpE2, wpE3, wpE4, wpE5, wpJ, okS, lt4S, popR, litS, Int32.reduceLT, Int32.reduceLE, List.getElem?_cons_zero, List.getElem?_cons_succ, Bool.false_eq_true, ↓reduceIte, Nat.reduceMod, Nat.reduceDiv, Nat.reduceAdd, Nat.reduceSub, Nat.reduceMul, Nat.reduceLeDiff, Nat.reduceEqDiff, Nat.reduceBEq, Int.reduceToNat, Int.reduceAdd, Int32.reduceOfInt, Int64.reduceOfInt, Int32.reduceToNatClampNeg, Int32.reduceOfNat, Bool.or_self, Bool.or_false, Bool.false_or, Bool.true_or, Bool.or_true, true_and, and_true, false_and, and_false, List.set_cons_zero, List.set_cons_succ, List.take_succ_cons, List.take_zero, List.drop_succ_cons, List.drop_zero, List.reverse_cons, List.reverse_nil, List.nil_append, List.cons_append, List.length_cons, List.length_nil, Option.toList_some, Option.toList_none, not_true_eq_false, not_false_eq_true, forall_const, true_implies, false_implies, nrw, TTS, s190b, s193b, s186, s179, s185, s191b, s178b, i186, i185, shM, isRl, and01, bI_0, linS, nI_add, clN, inN, inLS, xa_1, xa_2, xa_xa, neR hr, upd_ne, shR hr, xb_1, xb_2, xb_xa, updL_1, litM, i2lS, le_nlt, hr, hn, hb, hbb, hk, hx, hh1, hmu, hxo, hwi, hs, subS, not_true_eq_false, not_false_eq_true, and_true, true_and, and_false, false_and, and_self, or_true, true_or, or_false, false_or, ↓reduceIte, if_true, if_false, eq_self]
      refine ⟨fun z0 => ?_, fun z0 => ⟨z0, _, rfl, ?_, ?_⟩⟩
      · unfold aSid at h
        rw [if_pos z0] at h
        simp only [xb_id19] at h
        have key := e_fill hk hx hj hbj hbb hh1 hmu
        refine ⟨fun z1 => ⟨fun z2 => ⟨fun z3 => ?_, fun z3 => ?_⟩, fun z2 => ?_⟩, fun z1 => ⟨fun z2 => ⟨fun z3 => ?_, fun z3 => ?_⟩, fun z2 => ?_⟩⟩
        · rw [if_neg z2, if_neg z2, if_pos z3] at key
          rw [anti32 z2 z1]
          exact h _ key (by simp (disch := omega) only [upd_ne])
        · rw [if_neg z2, if_neg z2, if_neg z3] at key
          rw [anti32 z2 z1]
          exact h _ key (by simp (disch := omega) only [upd_ne])
        · have z4 := Classical.not_not.mp z2
          rw [if_pos z4, if_pos z4] at key
          exact h _ key (by simp (disch := omega) only [upd_ne])
        · rw [if_neg z2, if_neg z2, if_pos z3] at key
          exact h _ key (by simp (disch := omega) only [upd_ne])
        · rw [if_neg z2, if_neg z2, if_neg z3] at key
          exact h _ key (by simp (disch := omega) only [upd_ne])
        · have z4 := Classical.not_not.mp z2
          have z5 := Classical.not_not.mp z1
          rw [Int32.lt_iff_toInt_lt] at z4 z5
          omega
      · unfold aUp1
        rw [hbj, (hk.2.1 j hbb).2.2.1]
        exact e_send hk (e_ma (e_wa (e_ho hx hj) hj) hj) hn (nI j) 2 0 (fun h hh => by simp (disch := omega) only [upd_ne])
      · simp (disch := omega) only [sm2_hi, upd_ne]
    · rintro m1 ⟨z0, F1, rfl, hF, hF2⟩
      refine vc_wp (T := TT [(190, S190b k X), (193, S193b k X), (186, S186), (179, S179), (185, S185), (191, S191b k (aUp1 k X (nI j))), (178, S178b k (aUp1 k X (nI j)))]) (TTc (t190b k X) (TTc (t193b k X) (TTc (t186) (TTc (t179) (TTc (t185) (TTc (t191b k (aUp1 k X (nI j))) (TTc (t178b k (aUp1 k X (nI j))) TTn))))))) (fun _ => false) (rt0 := none) rfl (ckl_drop 44 c189) rfl ?_
      simp (disch := omega) only [List.drop, i189, wp_iinc, wpE0, wpE1, wpE2, wpE3, wpE4, wpE5, wpJ, okS, lt4S, popR, litS, Int32.reduceLT, Int32.reduceLE, List.getElem?_cons_zero, List.getElem?_cons_succ, Bool.false_eq_true, ↓reduceIte, Nat.reduceMod, Nat.reduceDiv, Nat.reduceAdd, Nat.reduceSub, Nat.reduceMul, Nat.reduceLeDiff, Nat.reduceEqDiff, Nat.reduceBEq, Int.reduceToNat, Int.reduceAdd, Int32.reduceOfInt, Int64.reduceOfInt, Int32.reduceToNatClampNeg, Int32.reduceOfNat, Bool.or_self, Bool.or_false, Bool.false_or, Bool.true_or, Bool.or_true, true_and, and_true, false_and, and_false, List.set_cons_zero, List.set_cons_succ, List.take_succ_cons, List.take_zero, List.drop_succ_cons, List.drop_zero, List.reverse_cons, List.reverse_nil, List.nil_append, List.cons_append, List.length_cons, List.length_nil, Option.toList_some, Option.toList_none, not_true_eq_false, not_false_eq_true, forall_const, true_implies, false_implies, nrw, TTS, s190b, s193b, s186, s179, s185, s191b, s178b, i186, i185, shM, isRl, and01, bI_0, linS, nI_add, clN, inN, inLS, xa_1, xa_2, xa_xa, neR hr, upd_ne, shR hr, xb_1, xb_2, xb_xa, updL_1, litM, i2lS, le_nlt, hr, hn, hb, hbb, hk, hx, hh1, hmu, hxo, hwi, hs, subS, not_true_eq_false, not_false_eq_true, and_true, true_and, and_false, false_and, and_self, or_true, true_or, or_false, false_or, ↓reduceIte, if_true, if_false, eq_self]
      unfold aSid at h
      rw [if_neg z0] at h
      unfold aUp at h
      refine ⟨fun z1 => ?_, fun z1 => ⟨hF, fun z hz => ⟨fun z2 => ?_, fun z2 => ?_⟩⟩⟩
      · rw [if_neg (c := s = 0) (by rw [hs]; exact fun q => q z1)] at h
        simp only [xb_id19] at h
        exact h F1 hF hF2
      · rw [if_pos (c := s = 0) (by rw [hs]; exact z1), if_pos (hz ▸ z2)] at h
        have hd := draw_rem (hxo (by rw [hs]; exact z1)) (n := 100) (by decide) (by decide)
        have hc : ((2 * kWi k).toInt64 ≤ aDraw (m.2 86 19) - aDraw (m.2 86 19) / 100 * 100) = (2 * m.1 90 1 ≤ (aDraw (m.2 86 19) - aDraw (m.2 86 19) / 100 * 100).toInt32) := by rw [hk.1.2.1]; exact le_64 hd.2.2
        refine ⟨fun z3 => ?_, fun z3 => ⟨hF, fun F hF3 hF4 => ?_⟩⟩
        · rw [if_pos (by rw [hc, le_nlt]; exact z3)] at h
          exact h F1 hF hF2
        · rw [if_neg (by rw [hc, le_nlt]; exact z3)] at h
          exact h F hF3 (hF4.trans hF2)
      · rw [if_pos (c := s = 0) (by rw [hs]; exact z1), if_neg (fun q => z2 (hz ▸ q))] at h
        simp only [xb_id19] at h
        exact h F1 hF hF2
