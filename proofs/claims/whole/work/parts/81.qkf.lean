theorem REL_fr {m m2 : xM} (hR : REL m) (h : ∀ q, (q < 64 ∨ 79 < q) → m2.1 q = m.1 q) (h79 : m2.1 79 = m.1 79) : REL m2 := by
  have hR' := hR
  simp only [REL, kk, g6, Nat.reduceAdd] at hR' ⊢
  have e0 := h 0 (by omega)
  have e2 := h 2 (by omega)
  have e3 := h 3 (by omega)
  have e4 := h 4 (by omega)
  have e5 := h 5 (by omega)
  have e6 := h 6 (by omega)
  have e7 := h 7 (by omega)
  have e8 := h 8 (by omega)
  have e9 := h 9 (by omega)
  have e10 := h 10 (by omega)
  have e11 := h 11 (by omega)
  have e12 := h 12 (by omega)
  have e13 := h 13 (by omega)
  have e14 := h 14 (by omega)
  have e15 := h 15 (by omega)
  have e16 := h 16 (by omega)
  have e17 := h 17 (by omega)
  have e18 := h 18 (by omega)
  have e19 := h 19 (by omega)
  have e20 := h 20 (by omega)
  have e35 := h 35 (by omega)
  have e36 := h 36 (by omega)
  have e37 := h 37 (by omega)
  have e38 := h 38 (by omega)
  have e39 := h 39 (by omega)
  have e40 := h 40 (by omega)
  have e41 := h 41 (by omega)
  have e42 := h 42 (by omega)
  have e43 := h 43 (by omega)
  have e44 := h 44 (by omega)
  have e45 := h 45 (by omega)
  have e46 := h 46 (by omega)
  have e47 := h 47 (by omega)
  have e48 := h 48 (by omega)
  have e49 := h 49 (by omega)
  have e50 := h 50 (by omega)
  have e51 := h 51 (by omega)
  have e52 := h 52 (by omega)
  have e53 := h 53 (by omega)
  have e54 := h 54 (by omega)
  have e55 := h 55 (by omega)
  have e56 := h 56 (by omega)
  have e57 := h 57 (by omega)
  have e58 := h 58 (by omega)
  have e59 := h 59 (by omega)
  have e60 := h 60 (by omega)
  have e61 := h 61 (by omega)
  have e62 := h 62 (by omega)
  have e84 := h 84 (by omega)
  have e85 := h 85 (by omega)
  have e86 := h 86 (by omega)
  have e87 := h 87 (by omega)
  have e88 := h 88 (by omega)
  have e89 := h 89 (by omega)
  have e90 := h 90 (by omega)
  have e92 := h 92 (by omega)
  have e93 := h 93 (by omega)
  have e97 := h 97 (by omega)
  have e98 := h 98 (by omega)
  have e99 := h 99 (by omega)
  have e100 := h 80 (by omega)
  simp only [h79, e0, e2, e3, e4, e5, e6, e7, e8, e9, e10, e11, e12, e13, e14, e15, e16, e17, e18, e19, e20, e35, e36, e37, e38, e39, e40, e41, e42, e43, e44, e45, e46, e47, e48, e49, e50, e51, e52, e53, e54, e55, e56, e57, e58, e59, e60, e61, e62, e84, e85, e86, e87, e88, e89, e90, e92, e93, e97, e98, e99, e100]
  exact hR'

def MF (m m2 : xM) : Prop := (∀ q, q ≠ 86 → q ≠ 94 → m2.1 q = m.1 q) ∧ ∀ i, ¬ i = 0 → ¬ (21 ≤ i ∧ i ≤ 24) → m2.1 86 i = m.1 86 i

theorem REL_mf {m m2 : xM} (hR : REL m) (h : MF m m2) : REL m2 := by
  have hR' := hR
  simp only [REL, kk, g6, Nat.reduceAdd] at hR' ⊢
  have e0 := h.1 0 (by omega) (by omega)
  have e2 := h.1 2 (by omega) (by omega)
  have e3 := h.1 3 (by omega) (by omega)
  have e4 := h.1 4 (by omega) (by omega)
  have e5 := h.1 5 (by omega) (by omega)
  have e6 := h.1 6 (by omega) (by omega)
  have e7 := h.1 7 (by omega) (by omega)
  have e8 := h.1 8 (by omega) (by omega)
  have e9 := h.1 9 (by omega) (by omega)
  have e10 := h.1 10 (by omega) (by omega)
  have e11 := h.1 11 (by omega) (by omega)
  have e12 := h.1 12 (by omega) (by omega)
  have e13 := h.1 13 (by omega) (by omega)
  have e14 := h.1 14 (by omega) (by omega)
  have e15 := h.1 15 (by omega) (by omega)
  have e16 := h.1 16 (by omega) (by omega)
  have e17 := h.1 17 (by omega) (by omega)
  have e18 := h.1 18 (by omega) (by omega)
  have e19 := h.1 19 (by omega) (by omega)
  have e20 := h.1 20 (by omega) (by omega)
  have e35 := h.1 35 (by omega) (by omega)
  have e36 := h.1 36 (by omega) (by omega)
  have e37 := h.1 37 (by omega) (by omega)
  have e38 := h.1 38 (by omega) (by omega)
  have e39 := h.1 39 (by omega) (by omega)
  have e40 := h.1 40 (by omega) (by omega)
  have e41 := h.1 41 (by omega) (by omega)
  have e42 := h.1 42 (by omega) (by omega)
  have e43 := h.1 43 (by omega) (by omega)
  have e44 := h.1 44 (by omega) (by omega)
  have e45 := h.1 45 (by omega) (by omega)
  have e46 := h.1 46 (by omega) (by omega)
  have e47 := h.1 47 (by omega) (by omega)
  have e48 := h.1 48 (by omega) (by omega)
  have e49 := h.1 49 (by omega) (by omega)
  have e50 := h.1 50 (by omega) (by omega)
  have e51 := h.1 51 (by omega) (by omega)
  have e52 := h.1 52 (by omega) (by omega)
  have e53 := h.1 53 (by omega) (by omega)
  have e54 := h.1 54 (by omega) (by omega)
  have e55 := h.1 55 (by omega) (by omega)
  have e56 := h.1 56 (by omega) (by omega)
  have e57 := h.1 57 (by omega) (by omega)
  have e58 := h.1 58 (by omega) (by omega)
  have e59 := h.1 59 (by omega) (by omega)
  have e60 := h.1 60 (by omega) (by omega)
  have e61 := h.1 61 (by omega) (by omega)
  have e62 := h.1 62 (by omega) (by omega)
  have e84 := h.1 84 (by omega) (by omega)
  have e85 := h.1 85 (by omega) (by omega)
  have e87 := h.1 87 (by omega) (by omega)
  have e88 := h.1 88 (by omega) (by omega)
  have e89 := h.1 89 (by omega) (by omega)
  have e90 := h.1 90 (by omega) (by omega)
  have e92 := h.1 92 (by omega) (by omega)
  have e93 := h.1 93 (by omega) (by omega)
  have e97 := h.1 97 (by omega) (by omega)
  have e98 := h.1 98 (by omega) (by omega)
  have e99 := h.1 99 (by omega) (by omega)
  have e100 := h.1 80 (by omega) (by omega)
  have e79 := h.1 79 (by omega) (by omega)
  have f1 := h.2 1 (by omega) (by omega)
  have f7 := h.2 7 (by omega) (by omega)
  have f10 := h.2 10 (by omega) (by omega)
  have f11 := h.2 11 (by omega) (by omega)
  have f31 := h.2 31 (by omega) (by omega)
  simp only [e0, e2, e3, e4, e5, e6, e7, e8, e9, e10, e11, e12, e13, e14, e15, e16, e17, e18, e19, e20, e35, e36, e37, e38, e39, e40, e41, e42, e43, e44, e45, e46, e47, e48, e49, e50, e51, e52, e53, e54, e55, e56, e57, e58, e59, e60, e61, e62, e84, e85, e87, e88, e89, e90, e92, e93, e97, e98, e99, e100, e79, f1, f7, f10, f11, f31]
  exact hR'

def mU (m : xM) (h1 h2 f : Nat) (p : Int32) (F : Nat → Int32) : xM := xa (xa m 86 (upd (upd (upd (upd (upd (m.1 86) 0 0) 21 (nI h1)) 22 (nI h2)) 23 (nI f)) 24 p)) 94 F
theorem mUS (m : xM) (h1 h2 f : Nat) (p : Int32) (F : Nat → Int32) : (mU m h1 h2 f p F).1 86 = upd (upd (upd (upd (upd (m.1 86) 0 0) 21 (nI h1)) 22 (nI h2)) 23 (nI f)) 24 p ∧ (mU m h1 h2 f p F).1 90 = m.1 90 ∧ (mU m h1 h2 f p F).1 92 = m.1 92 := ⟨rfl, rfl, rfl⟩
theorem mU_94 (m : xM) (h1 h2 f : Nat) (p : Int32) (F F' : Nat → Int32) : xa (mU m h1 h2 f p F) 94 F' = mU m h1 h2 f p F' := xa_xa _ _ _ _
theorem mU_0 (m : xM) (h1 h2 f : Nat) (p : Int32) : xa m 86 (upd (upd (upd (upd (upd (m.1 86) 0 0) 21 (nI h1)) 22 (nI h2)) 23 (nI f)) 24 p) = mU m h1 h2 f p (m.1 94) := (xa_id (xa m 86 (upd (upd (upd (upd (upd (m.1 86) 0 0) 21 (nI h1)) 22 (nI h2)) 23 (nI f)) 24 p)) 94).symm
theorem mU_86 (m : xM) (h1 h2 f f' : Nat) (p p' : Int32) (F : Nat → Int32) : xa (mU m h1 h2 f p F) 86 (upd (upd (upd (upd (upd (upd (m.1 86) 0 0) 21 (nI h1)) 22 (nI h2)) 23 (nI f)) 24 p') 23 (nI f')) = mU m h1 h2 f' p' F := by
  unfold mU
  rw [xa_cm (a := 94) (b := 86) (by decide), xa_xa]
  congr 1
  congr 1
  funext q
  simp only [upd_at]
  by_cases e1 : q = 24
  · subst e1; simp
  · by_cases e2 : q = 23
    · subst e2; simp
    · simp [e1, e2]
theorem mU_mf (m : xM) (h1 h2 f : Nat) (p : Int32) (F : Nat → Int32) : MF m (mU m h1 h2 f p F) := by
  refine ⟨fun q a b => (xa_ne b).trans (xa_ne a), fun i a b => ?_⟩
  show upd (upd (upd (upd (upd (m.1 86) 0 0) 21 (nI h1)) 22 (nI h2)) 23 (nI f)) 24 p i = _
  rw [upd_ne (by omega), upd_ne (by omega), upd_ne (by omega), upd_ne (by omega), upd_ne (by omega)]
def S204T (G : xG) (as : List Value) (m : xM) (Q : xQt) : Prop := Tri G 204 as m Q
def S205T (G : xG) (as : List Value) (m : xM) (Q : xQt) : Prop := Tri G 205 as m Q
theorem two_u {k : KK} {X : X6} {j h1 h2 g1 g2 : Nat} (h : two k X j h1 h2) (g : two k X j g1 g2) : h1 = g1 ∧ h2 = g2 := by
  obtain ⟨a1, a2, a3, a4, a5, a6⟩ := h
  obtain ⟨b1, b2, b3, b4, b5, b6⟩ := g
  have e : h1 = g1 := by
    rcases Nat.lt_trichotomy h1 g1 with y | y | y
    · exact absurd a3 (b5 h1 y)
    · exact y
    · exact absurd b3 (a5 g1 y)
  subst e
  refine ⟨rfl, ?_⟩
  rcases Nat.lt_trichotomy h2 g2 with y | y | y
  · exact absurd a4 (b6 h2 a1 y)
  · exact y
  · exact absurd b4 (a6 g2 b1 y)
theorem two_n {k : KK} {X : X6} {j h1 h2 : Nat} (h : two k X j h1 h2) (g : nTw k X j) : False := g h1 h2 h.1 h.2.1 h.2.2.1 h.2.2.2.1

theorem m203x {G : xG} {m : xM} {Q : xQt} {k : KK} {X0 : X6} {j : Nat} {a2 : Int32} (hk : EK k (m.1 90)) (hx : E6 (ix (m.1 90 4)) X0 (m.1 92)) (hvk : VKK k) (hvx : VXX k X0) (hj : j < ix (kNb k)) (hmb : 0 ≤ nI j ∧ nI j ≤ m.1 90 3 - 1) (ha2 : 0 ≤ a2 ∧ a2 ≤ 1) (hho : m.1 92 (4 * j + 0) = 1) (hqn : nTw k X0 j → ∀ m2, MF m m2 → Q (some (.long (-1000000))) m2) (hqs : ∀ h1 h2, two k X0 j h1 h2 → ∀ m2, MF m m2 → Q (some (.long (if (bq (qtk k X0 (nI j) h1 h2) 4096).1 = 21 then -1000000 else if a2 = 0 then (nI (bq (qtk k X0 (nI j) h1 h2) 4096).1).toInt64 else (bq (qtk k X0 (nI j) h1 h2) 4096).2.toInt64))) m2) : Tri G 203 [.ref 86, .int (nI j), .int a2] m Q := by
  obtain ⟨h0a, h1a⟩ := ha2
  have nb6 : ix (kNb k) ≤ 6 := (ix_b (n := 6) (by decide) hvk.1.2.2.2.1).1
  have nh12 : ix (kNh k) ≤ 12 := (ix_b (n := 12) (by decide) hvk.1.2.2.2.2).1
  have hj6 : j < 6 := by omega
  have enh : m.1 90 4 = kNh k := hk.1.2.2.2.2.symm
  have en : m.1 90 4 = nI (ix (kNh k)) := enh.trans (ix_b (n := 12) (by decide) hvk.1.2.2.2.2).2
  have hP : ∀ u, u < ix (kNh k) → ((m.1 90 (29 + 3 * u + 0) = nI j ∧ ¬ m.1 92 (24 + 2 * u + 1) ≤ 0) ↔ abl k X0 j u) := fun u hu => by
    have a1 := (hk.2.2 u (by rw [enh]; exact hu)).1
    have a2 := (hx.2 u (by rw [enh]; exact hu)).2
    show _ ↔ (kBo k u = nI j ∧ ¬ xGr X0 u ≤ 0)
    rw [a1, a2]
  refine tri_vc (ls := [.ref 86, .int (nI j), .int a2, .null, .null]) (by decide +kernel) rfl (Nat.le_of_ble_eq_true rfl) ?_
  refine vc_cut 71 [.ref 86, .int (nI j), .int a2, .int (nI 0), .null] (fun m' => ∃ h1 h2, two k X0 j h1 h2 ∧ m' = mU m h1 h2 21 (-1000000) (m.1 94)) (vc_wp (T := TT [(177, S177), (148, S148), (204, S204T G), (205, S205T G)]) (TTc t177 (TTc t148 (TTc (fun as m Q h => h) (TTc (fun as m Q h => h) TTn)))) (fun p => p == 71) (rt0 := some .long) rfl c203 rfl ?_) ?_
  · simp (disch := omega) only [i203, wp_iinc, wpE0, wpE1, wpE2, wpE3, wpE4, wpE5, wpJ, okS, lt4S, popR, litS, Int32.reduceLT, Int32.reduceLE, List.getElem?_cons_zero, List.getElem?_cons_succ, Bool.false_eq_true, ↓reduceIte, Nat.reduceMod, Nat.reduceDiv, Nat.reduceAdd, Nat.reduceSub, Nat.reduceMul, Nat.reduceLeDiff, Nat.reduceEqDiff, Nat.reduceBEq, Int.reduceToNat, Int.reduceAdd, Int32.reduceOfInt, Int64.reduceOfInt, Int32.reduceToNatClampNeg, Int32.reduceOfNat, Bool.or_self, Bool.or_false, Bool.false_or, Bool.true_or, Bool.or_true, true_and, and_true, false_and, and_false, List.set_cons_zero, List.set_cons_succ, List.take_succ_cons, List.take_zero, List.drop_succ_cons, List.drop_zero, List.reverse_cons, List.reverse_nil, List.nil_append, List.cons_append, List.length_cons, List.length_nil, Option.toList_some, Option.toList_none, not_true_eq_false, not_false_eq_true, forall_const, true_implies, false_implies, nrw, TTS, shM, shO, and01, bI_0, bI_and, isRl, cmpS, toLS, toL_le, toL_lt, i2lS, inM, Int64.reduceLE, Int64.reduceLT, xa_1, xa_2, xa_xa, upd_at, updU, linS, nI_add, nI_s2, clN, inN, inLS, Nat.reduceEqDiff, ↓reduceIte, not_true_eq_false, not_false_eq_true, and_true, true_and, and_false, false_and, and_self, or_true, true_or, or_false, false_or, ↓reduceIte, if_true, if_false, eq_self, S204T, S205T, s177, s148, mUS, h0a, h1a, hmb, hho, not_true_eq_false, not_false_eq_true, and_true, true_and, and_false, false_and, and_self, or_true, true_or, or_false, false_or, ↓reduceIte, if_true, if_false, eq_self]
    refine t204x (n := ix (kNh k)) hj6 en nh12 (fun u v p1 p2 p3 p4 p5 p6 => ?_) (fun hno x y => ?_)
    · simp (disch := omega) only [wp_iinc, wpE0, wpE1, wpE2, wpE3, wpE4, wpE5, wpJ, okS, lt4S, popR, litS, Int32.reduceLT, Int32.reduceLE, List.getElem?_cons_zero, List.getElem?_cons_succ, Bool.false_eq_true, ↓reduceIte, Nat.reduceMod, Nat.reduceDiv, Nat.reduceAdd, Nat.reduceSub, Nat.reduceMul, Nat.reduceLeDiff, Nat.reduceEqDiff, Nat.reduceBEq, Int.reduceToNat, Int.reduceAdd, Int32.reduceOfInt, Int64.reduceOfInt, Int32.reduceToNatClampNeg, Int32.reduceOfNat, Bool.or_self, Bool.or_false, Bool.false_or, Bool.true_or, Bool.or_true, true_and, and_true, false_and, and_false, List.set_cons_zero, List.set_cons_succ, List.take_succ_cons, List.take_zero, List.drop_succ_cons, List.drop_zero, List.reverse_cons, List.reverse_nil, List.nil_append, List.cons_append, List.length_cons, List.length_nil, Option.toList_some, Option.toList_none, not_true_eq_false, not_false_eq_true, forall_const, true_implies, false_implies, nrw, TTS, shM, shO, and01, bI_0, bI_and, isRl, cmpS, toLS, toL_le, toL_lt, i2lS, inM, Int64.reduceLE, Int64.reduceLT, xa_1, xa_2, xa_xa, upd_at, updU, linS, nI_add, nI_s2, clN, inN, inLS, Nat.reduceEqDiff, ↓reduceIte, not_true_eq_false, not_false_eq_true, and_true, true_and, and_false, false_and, and_self, or_true, true_or, or_false, false_or, ↓reduceIte, if_true, if_false, eq_self, S204T, S205T, s177, s148, mUS, h0a, h1a, subS, (show nI 0 = 0 from rfl), not_true_eq_false, not_false_eq_true, and_true, true_and, and_false, false_and, and_self, or_true, true_or, or_false, false_or, ↓reduceIte, if_true, if_false, eq_self]
      exact ⟨u, v, ⟨p1, p2, (hP u (by omega)).mp p3, (hP v p2).mp p4, fun h hh y => p5 h hh ((hP h (by omega)).mpr y), fun h q1 q2 y => p6 h q1 q2 ((hP h (by omega)).mpr y)⟩, mU_0 m u v 21 (-1000000)⟩
    · simp (disch := omega) only [wp_iinc, wpE0, wpE1, wpE2, wpE3, wpE4, wpE5, wpJ, okS, lt4S, popR, litS, Int32.reduceLT, Int32.reduceLE, List.getElem?_cons_zero, List.getElem?_cons_succ, Bool.false_eq_true, ↓reduceIte, Nat.reduceMod, Nat.reduceDiv, Nat.reduceAdd, Nat.reduceSub, Nat.reduceMul, Nat.reduceLeDiff, Nat.reduceEqDiff, Nat.reduceBEq, Int.reduceToNat, Int.reduceAdd, Int32.reduceOfInt, Int64.reduceOfInt, Int32.reduceToNatClampNeg, Int32.reduceOfNat, Bool.or_self, Bool.or_false, Bool.false_or, Bool.true_or, Bool.or_true, true_and, and_true, false_and, and_false, List.set_cons_zero, List.set_cons_succ, List.take_succ_cons, List.take_zero, List.drop_succ_cons, List.drop_zero, List.reverse_cons, List.reverse_nil, List.nil_append, List.cons_append, List.length_cons, List.length_nil, Option.toList_some, Option.toList_none, not_true_eq_false, not_false_eq_true, forall_const, true_implies, false_implies, nrw, TTS, shM, shO, and01, bI_0, bI_and, isRl, cmpS, toLS, toL_le, toL_lt, i2lS, inM, Int64.reduceLE, Int64.reduceLT, xa_1, xa_2, xa_xa, upd_at, updU, linS, nI_add, nI_s2, clN, inN, inLS, Nat.reduceEqDiff, ↓reduceIte, not_true_eq_false, not_false_eq_true, and_true, true_and, and_false, false_and, and_self, or_true, true_or, or_false, false_or, ↓reduceIte, if_true, if_false, eq_self, S204T, S205T, s177, s148, mUS, h0a, h1a, not_true_eq_false, not_false_eq_true, and_true, true_and, and_false, false_and, and_self, or_true, true_or, or_false, false_or, ↓reduceIte, if_true, if_false, eq_self]
      refine hqn (fun u v q1 q2 q3 q4 => hno u v q1 q2 ((hP u (by omega)).mpr q3) ((hP v q2).mpr q4)) _ ⟨fun q z1 z2 => xa_ne z1, fun i z1 z2 => ?_⟩
      show upd (upd (upd (m.1 86) 0 0) 21 x) 22 y i = _
      rw [upd_ne (by omega), upd_ne (by omega), upd_ne (by omega)]
  · rintro m' ⟨h1, h2, htw, rfl⟩
    refine vc_forP 4096 (fun i => [.ref 86, .int (nI j), .int a2, .int (nI i), .null]) (fun i M => ∃ F, M = mU m h1 h2 (bq (qtk k X0 (nI j) h1 h2) i).1 (bq (qtk k X0 (nI j) h1 h2) i).2 F) (fun i M hi hp => ?_) (fun M hp => ?_) ⟨_, rfl⟩
    · obtain ⟨F, rfl⟩ := hp
      have c1 : ¬ 4096 ≤ nI i := nI_ge (b := 4096) hi (by omega)
      have c1' : nI i < 4096 := Int32.not_le.mp c1
      refine vc_wp (T := TT [(177, S177), (148, S148), (204, S204T G), (205, S205T G)]) (TTc t177 (TTc t148 (TTc (fun as m Q h => h) (TTc (fun as m Q h => h) TTn)))) (fun _ => false) (rt0 := some .long) rfl (ckl_drop 41 c203) rfl ?_
      simp (disch := omega) only [List.drop, i203, wp_iinc, wpE0, wpE1, wpE2, wpE3, wpE4, wpE5, wpJ, okS, lt4S, popR, litS, Int32.reduceLT, Int32.reduceLE, List.getElem?_cons_zero, List.getElem?_cons_succ, Bool.false_eq_true, ↓reduceIte, Nat.reduceMod, Nat.reduceDiv, Nat.reduceAdd, Nat.reduceSub, Nat.reduceMul, Nat.reduceLeDiff, Nat.reduceEqDiff, Nat.reduceBEq, Int.reduceToNat, Int.reduceAdd, Int32.reduceOfInt, Int64.reduceOfInt, Int32.reduceToNatClampNeg, Int32.reduceOfNat, Bool.or_self, Bool.or_false, Bool.false_or, Bool.true_or, Bool.or_true, true_and, and_true, false_and, and_false, List.set_cons_zero, List.set_cons_succ, List.take_succ_cons, List.take_zero, List.drop_succ_cons, List.drop_zero, List.reverse_cons, List.reverse_nil, List.nil_append, List.cons_append, List.length_cons, List.length_nil, Option.toList_some, Option.toList_none, not_true_eq_false, not_false_eq_true, forall_const, true_implies, false_implies, nrw, TTS, shM, shO, and01, bI_0, bI_and, isRl, cmpS, toLS, toL_le, toL_lt, i2lS, inM, Int64.reduceLE, Int64.reduceLT, xa_1, xa_2, xa_xa, upd_at, updU, linS, nI_add, nI_s2, clN, inN, inLS, Nat.reduceEqDiff, ↓reduceIte, not_true_eq_false, not_false_eq_true, and_true, true_and, and_false, false_and, and_self, or_true, true_or, or_false, false_or, ↓reduceIte, if_true, if_false, eq_self, S204T, S205T, s177, s148, mUS, h0a, h1a, c1, c1', not_true_eq_false, not_false_eq_true, and_true, true_and, and_false, false_and, and_self, or_true, true_or, or_false, false_or, ↓reduceIte, if_true, if_false, eq_self]
      refine t205x (k := k) (X0 := X0) (h1 := h1) (h2 := h2) hk hx hvk hvx hj (by show h1 < ix (m.1 90 4); rw [enh]; have := htw.1; have := htw.2.1; omega) (by show h2 < ix (m.1 90 4); rw [enh]; exact htw.2.1) rfl rfl hi (fun F' => ?_)
      rw [mU_94]
      have hb2 := bq_21 (qtk k X0 (nI j) h1 h2) i
      have ht2 := qtk_21 k X0 (nI j) h1 h2 i
      by_cases y : (qtk k X0 (nI j) h1 h2) i < (bq (qtk k X0 (nI j) h1 h2) i).1
      · have y1 : ¬ nI (bq (qtk k X0 (nI j) h1 h2) i).1 ≤ nI ((qtk k X0 (nI j) h1 h2) i) := nI_ge y (by omega)
        have y1' : nI ((qtk k X0 (nI j) h1 h2) i) < nI (bq (qtk k X0 (nI j) h1 h2) i).1 := Int32.not_le.mp y1
        rw [bq_take y]
        simp (disch := omega) only [wp_iinc, wpE0, wpE1, wpE2, wpE3, wpE4, wpE5, wpJ, okS, lt4S, popR, litS, Int32.reduceLT, Int32.reduceLE, List.getElem?_cons_zero, List.getElem?_cons_succ, Bool.false_eq_true, ↓reduceIte, Nat.reduceMod, Nat.reduceDiv, Nat.reduceAdd, Nat.reduceSub, Nat.reduceMul, Nat.reduceLeDiff, Nat.reduceEqDiff, Nat.reduceBEq, Int.reduceToNat, Int.reduceAdd, Int32.reduceOfInt, Int64.reduceOfInt, Int32.reduceToNatClampNeg, Int32.reduceOfNat, Bool.or_self, Bool.or_false, Bool.false_or, Bool.true_or, Bool.or_true, true_and, and_true, false_and, and_false, List.set_cons_zero, List.set_cons_succ, List.take_succ_cons, List.take_zero, List.drop_succ_cons, List.drop_zero, List.reverse_cons, List.reverse_nil, List.nil_append, List.cons_append, List.length_cons, List.length_nil, Option.toList_some, Option.toList_none, not_true_eq_false, not_false_eq_true, forall_const, true_implies, false_implies, nrw, TTS, shM, shO, and01, bI_0, bI_and, isRl, cmpS, toLS, toL_le, toL_lt, i2lS, inM, Int64.reduceLE, Int64.reduceLT, xa_1, xa_2, xa_xa, upd_at, updU, linS, nI_add, nI_s2, clN, inN, inLS, Nat.reduceEqDiff, ↓reduceIte, not_true_eq_false, not_false_eq_true, and_true, true_and, and_false, false_and, and_self, or_true, true_or, or_false, false_or, ↓reduceIte, if_true, if_false, eq_self, S204T, S205T, s177, s148, mUS, h0a, h1a, y1, y1', sh8 hi, subS, nI_1, not_true_eq_false, not_false_eq_true, and_true, true_and, and_false, false_and, and_self, or_true, true_or, or_false, false_or, ↓reduceIte, if_true, if_false, eq_self]
        exact ⟨F', mU_86 _ _ _ _ _ _ _ _⟩
      · have y1 : nI (bq (qtk k X0 (nI j) h1 h2) i).1 ≤ nI ((qtk k X0 (nI j) h1 h2) i) := nI_le (by omega) (by omega)
        have y1' : ¬ nI ((qtk k X0 (nI j) h1 h2) i) < nI (bq (qtk k X0 (nI j) h1 h2) i).1 := Int32.not_lt.mpr y1
        rw [bq_skip (by omega)]
        simp (disch := omega) only [wp_iinc, wpE0, wpE1, wpE2, wpE3, wpE4, wpE5, wpJ, okS, lt4S, popR, litS, Int32.reduceLT, Int32.reduceLE, List.getElem?_cons_zero, List.getElem?_cons_succ, Bool.false_eq_true, ↓reduceIte, Nat.reduceMod, Nat.reduceDiv, Nat.reduceAdd, Nat.reduceSub, Nat.reduceMul, Nat.reduceLeDiff, Nat.reduceEqDiff, Nat.reduceBEq, Int.reduceToNat, Int.reduceAdd, Int32.reduceOfInt, Int64.reduceOfInt, Int32.reduceToNatClampNeg, Int32.reduceOfNat, Bool.or_self, Bool.or_false, Bool.false_or, Bool.true_or, Bool.or_true, true_and, and_true, false_and, and_false, List.set_cons_zero, List.set_cons_succ, List.take_succ_cons, List.take_zero, List.drop_succ_cons, List.drop_zero, List.reverse_cons, List.reverse_nil, List.nil_append, List.cons_append, List.length_cons, List.length_nil, Option.toList_some, Option.toList_none, not_true_eq_false, not_false_eq_true, forall_const, true_implies, false_implies, nrw, TTS, shM, shO, and01, bI_0, bI_and, isRl, cmpS, toLS, toL_le, toL_lt, i2lS, inM, Int64.reduceLE, Int64.reduceLT, xa_1, xa_2, xa_xa, upd_at, updU, linS, nI_add, nI_s2, clN, inN, inLS, Nat.reduceEqDiff, ↓reduceIte, not_true_eq_false, not_false_eq_true, and_true, true_and, and_false, false_and, and_self, or_true, true_or, or_false, false_or, ↓reduceIte, if_true, if_false, eq_self, S204T, S205T, s177, s148, mUS, h0a, h1a, y1, y1', sh8 hi, subS, nI_1, not_true_eq_false, not_false_eq_true, and_true, true_and, and_false, false_and, and_self, or_true, true_or, or_false, false_or, ↓reduceIte, if_true, if_false, eq_self]
        exact ⟨F', mU_86 _ _ _ _ _ _ _ _⟩
    · obtain ⟨F, rfl⟩ := hp
      have c1 : 4096 ≤ nI 4096 := by decide
      have c1' : ¬ nI 4096 < 4096 := by decide
      have hb2 := bq_21 (qtk k X0 (nI j) h1 h2) 4096
      have hf := hqs h1 h2 htw _ (mU_mf m h1 h2 (bq (qtk k X0 (nI j) h1 h2) 4096).1 (bq (qtk k X0 (nI j) h1 h2) 4096).2 F)
      by_cases y : (bq (qtk k X0 (nI j) h1 h2) 4096).1 = 21
      · have y1 : (nI (bq (qtk k X0 (nI j) h1 h2) 4096).1 = 21) = True := eq_true (by rw [y]; rfl)
        rw [if_pos y] at hf
        refine vc_wp (T := TT [(177, S177), (148, S148), (204, S204T G), (205, S205T G)]) (TTc t177 (TTc t148 (TTc (fun as m Q h => h) (TTc (fun as m Q h => h) TTn)))) (fun _ => false) (rt0 := some .long) rfl (ckl_drop 41 c203) rfl ?_
        simp (disch := omega) only [List.drop, i203, wp_iinc, wpE0, wpE1, wpE2, wpE3, wpE4, wpE5, wpJ, okS, lt4S, popR, litS, Int32.reduceLT, Int32.reduceLE, List.getElem?_cons_zero, List.getElem?_cons_succ, Bool.false_eq_true, ↓reduceIte, Nat.reduceMod, Nat.reduceDiv, Nat.reduceAdd, Nat.reduceSub, Nat.reduceMul, Nat.reduceLeDiff, Nat.reduceEqDiff, Nat.reduceBEq, Int.reduceToNat, Int.reduceAdd, Int32.reduceOfInt, Int64.reduceOfInt, Int32.reduceToNatClampNeg, Int32.reduceOfNat, Bool.or_self, Bool.or_false, Bool.false_or, Bool.true_or, Bool.or_true, true_and, and_true, false_and, and_false, List.set_cons_zero, List.set_cons_succ, List.take_succ_cons, List.take_zero, List.drop_succ_cons, List.drop_zero, List.reverse_cons, List.reverse_nil, List.nil_append, List.cons_append, List.length_cons, List.length_nil, Option.toList_some, Option.toList_none, not_true_eq_false, not_false_eq_true, forall_const, true_implies, false_implies, nrw, TTS, shM, shO, and01, bI_0, bI_and, isRl, cmpS, toLS, toL_le, toL_lt, i2lS, inM, Int64.reduceLE, Int64.reduceLT, xa_1, xa_2, xa_xa, upd_at, updU, linS, nI_add, nI_s2, clN, inN, inLS, Nat.reduceEqDiff, ↓reduceIte, not_true_eq_false, not_false_eq_true, and_true, true_and, and_false, false_and, and_self, or_true, true_or, or_false, false_or, ↓reduceIte, if_true, if_false, eq_self, S204T, S205T, s177, s148, mUS, h0a, h1a, c1, c1', y1, not_true_eq_false, not_false_eq_true, and_true, true_and, and_false, false_and, and_self, or_true, true_or, or_false, false_or, ↓reduceIte, if_true, if_false, eq_self]
        exact hf
      · have y1 : ¬ nI (bq (qtk k X0 (nI j) h1 h2) 4096).1 = 21 := fun z => y ((nI_eq (b := 21) (by omega) (by omega)).mp z)
        rw [if_neg y] at hf
        by_cases x : a2 = 0
        · rw [if_pos x] at hf
          have x' : (a2 = 0) = True := eq_true x
          refine vc_wp (T := TT [(177, S177), (148, S148), (204, S204T G), (205, S205T G)]) (TTc t177 (TTc t148 (TTc (fun as m Q h => h) (TTc (fun as m Q h => h) TTn)))) (fun _ => false) (rt0 := some .long) rfl (ckl_drop 41 c203) rfl ?_
          simp (disch := omega) only [List.drop, i203, wp_iinc, wpE0, wpE1, wpE2, wpE3, wpE4, wpE5, wpJ, okS, lt4S, popR, litS, Int32.reduceLT, Int32.reduceLE, List.getElem?_cons_zero, List.getElem?_cons_succ, Bool.false_eq_true, ↓reduceIte, Nat.reduceMod, Nat.reduceDiv, Nat.reduceAdd, Nat.reduceSub, Nat.reduceMul, Nat.reduceLeDiff, Nat.reduceEqDiff, Nat.reduceBEq, Int.reduceToNat, Int.reduceAdd, Int32.reduceOfInt, Int64.reduceOfInt, Int32.reduceToNatClampNeg, Int32.reduceOfNat, Bool.or_self, Bool.or_false, Bool.false_or, Bool.true_or, Bool.or_true, true_and, and_true, false_and, and_false, List.set_cons_zero, List.set_cons_succ, List.take_succ_cons, List.take_zero, List.drop_succ_cons, List.drop_zero, List.reverse_cons, List.reverse_nil, List.nil_append, List.cons_append, List.length_cons, List.length_nil, Option.toList_some, Option.toList_none, not_true_eq_false, not_false_eq_true, forall_const, true_implies, false_implies, nrw, TTS, shM, shO, and01, bI_0, bI_and, isRl, cmpS, toLS, toL_le, toL_lt, i2lS, inM, Int64.reduceLE, Int64.reduceLT, xa_1, xa_2, xa_xa, upd_at, updU, linS, nI_add, nI_s2, clN, inN, inLS, Nat.reduceEqDiff, ↓reduceIte, not_true_eq_false, not_false_eq_true, and_true, true_and, and_false, false_and, and_self, or_true, true_or, or_false, false_or, ↓reduceIte, if_true, if_false, eq_self, S204T, S205T, s177, s148, mUS, h0a, h1a, c1, c1', y1, x', not_true_eq_false, not_false_eq_true, and_true, true_and, and_false, false_and, and_self, or_true, true_or, or_false, false_or, ↓reduceIte, if_true, if_false, eq_self]
          exact hf
        · rw [if_neg x] at hf
          refine vc_wp (T := TT [(177, S177), (148, S148), (204, S204T G), (205, S205T G)]) (TTc t177 (TTc t148 (TTc (fun as m Q h => h) (TTc (fun as m Q h => h) TTn)))) (fun _ => false) (rt0 := some .long) rfl (ckl_drop 41 c203) rfl ?_
          simp (disch := omega) only [List.drop, i203, wp_iinc, wpE0, wpE1, wpE2, wpE3, wpE4, wpE5, wpJ, okS, lt4S, popR, litS, Int32.reduceLT, Int32.reduceLE, List.getElem?_cons_zero, List.getElem?_cons_succ, Bool.false_eq_true, ↓reduceIte, Nat.reduceMod, Nat.reduceDiv, Nat.reduceAdd, Nat.reduceSub, Nat.reduceMul, Nat.reduceLeDiff, Nat.reduceEqDiff, Nat.reduceBEq, Int.reduceToNat, Int.reduceAdd, Int32.reduceOfInt, Int64.reduceOfInt, Int32.reduceToNatClampNeg, Int32.reduceOfNat, Bool.or_self, Bool.or_false, Bool.false_or, Bool.true_or, Bool.or_true, true_and, and_true, false_and, and_false, List.set_cons_zero, List.set_cons_succ, List.take_succ_cons, List.take_zero, List.drop_succ_cons, List.drop_zero, List.reverse_cons, List.reverse_nil, List.nil_append, List.cons_append, List.length_cons, List.length_nil, Option.toList_some, Option.toList_none, not_true_eq_false, not_false_eq_true, forall_const, true_implies, false_implies, nrw, TTS, shM, shO, and01, bI_0, bI_and, isRl, cmpS, toLS, toL_le, toL_lt, i2lS, inM, Int64.reduceLE, Int64.reduceLT, xa_1, xa_2, xa_xa, upd_at, updU, linS, nI_add, nI_s2, clN, inN, inLS, Nat.reduceEqDiff, ↓reduceIte, not_true_eq_false, not_false_eq_true, and_true, true_and, and_false, false_and, and_self, or_true, true_or, or_false, false_or, ↓reduceIte, if_true, if_false, eq_self, S204T, S205T, s177, s148, mUS, h0a, h1a, c1, c1', y1, x, not_true_eq_false, not_false_eq_true, and_true, true_and, and_false, false_and, and_self, or_true, true_or, or_false, false_or, ↓reduceIte, if_true, if_false, eq_self]
          exact hf


def S104 (as : List Value) (m : xM) (Q : xQt) : Prop := match as with
  | [.ref o] => wp (fun _ _ _ _ => False) (fun _ => false) Q (some .int) (TT []) none i104 [.ref o] [] m
  | _ => False
theorem s104 (o : Nat) (m : xM) (Q : xQt) : S104 [.ref o] m Q = wp (fun _ _ _ _ => False) (fun _ => false) Q (some .int) (TT []) none i104 [.ref o] [] m := rfl
theorem t104 {G : xG} : ∀ as m Q, S104 as m Q → Tri G 104 as m Q := by
  intro as m Q h
  match as, h with
  | [.ref o], h => exact tri_wp (T := TT []) (ls := [.ref o]) TTn c104 (by decide +kernel) (rt0 := some .int) rfl rfl (Nat.le_of_ble_eq_true rfl) rfl h

def S95T (G : xG) (as : List Value) (m : xM) (Q : xQt) : Prop := Tri G 95 as m Q

theorem p94 {G : xG} {m : xM} (hR : REL m) (a : Int32) (a2 : Int32) {Q : xQt} (h : ∀ (rv : Int64) m1, MID G 203 [.ref 86, .int a, .int a2] (.long rv) m1 → Q (some (.long rv)) m1) : Tri G 94 [.ref 0, .int a, .int a2] m Q := by
  by_cases hb : ¬ a < 0 ∧ ¬ m.1 7 4 ≤ a
  · obtain ⟨j, hj, rfl, hjb, hij, hin⟩ := isB_of hR hb
    have hmb := m_isB hR (nI j)
    have r1 := (R_b hR hjb).1
    by_cases c1 : a2 < 0
    · have c1' : ¬ 0 ≤ a2 := Int32.not_le.mpr c1
      refine tri_wp (T := TT [(59, S59), (95, S95T G), (104, S104)]) (ls := [.ref 0, .int (nI j), .int a2]) (TTc t59 (TTc (fun as m Q h => h) (TTc t104 TTn))) c94 (by decide +kernel) (rt0 := some .long) rfl rfl (Nat.le_of_ble_eq_true rfl) rfl ?_
      simp (disch := omega) only [i94, wp_iinc, wpE0, wpE1, wpE2, wpE3, wpE4, wpE5, wpJ, okS, lt4S, popR, litS, Int32.reduceLT, Int32.reduceLE, List.getElem?_cons_zero, List.getElem?_cons_succ, Bool.false_eq_true, ↓reduceIte, Nat.reduceMod, Nat.reduceDiv, Nat.reduceAdd, Nat.reduceSub, Nat.reduceMul, Nat.reduceLeDiff, Nat.reduceEqDiff, Nat.reduceBEq, Int.reduceToNat, Int.reduceAdd, Int32.reduceOfInt, Int64.reduceOfInt, Int32.reduceToNatClampNeg, Int32.reduceOfNat, Bool.or_self, Bool.or_false, Bool.false_or, Bool.true_or, Bool.or_true, true_and, and_true, false_and, and_false, List.set_cons_zero, List.set_cons_succ, List.take_succ_cons, List.take_zero, List.drop_succ_cons, List.drop_zero, List.reverse_cons, List.reverse_nil, List.nil_append, List.cons_append, List.length_cons, List.length_nil, Option.toList_some, Option.toList_none, not_true_eq_false, not_false_eq_true, forall_const, true_implies, false_implies, nrw, TTS, s59, s104, i104, shO, sh7L, and01, bI_0, bI_and, isCl, isRl, cmpS, toLS, toL_le, toL_lt, i2lS, inM, Int64.reduceLE, Int64.reduceLT, xa_1, xa_2, xa_xa, upd_at, updU, Nat.reduceEqDiff, ↓reduceIte, not_true_eq_false, not_false_eq_true, and_true, true_and, and_false, false_and, and_self, or_true, true_or, or_false, false_or, ↓reduceIte, if_true, if_false, eq_self, hb, hij, hin, c1, c1']
      refine h _ _ (fun Q' hq => ?_)
      refine tri_wp (T := TT [(177, S177), (148, S148), (204, S204T G), (205, S205T G)]) (ls := [.ref 86, .int (nI j), .int a2, .null, .null]) (TTc t177 (TTc t148 (TTc (fun as m Q h => h) (TTc (fun as m Q h => h) TTn)))) c203 (by decide +kernel) (rt0 := some .long) rfl rfl (Nat.le_of_ble_eq_true rfl) rfl ?_
      simp (disch := omega) only [i203, wp_iinc, wpE0, wpE1, wpE2, wpE3, wpE4, wpE5, wpJ, okS, lt4S, popR, litS, Int32.reduceLT, Int32.reduceLE, List.getElem?_cons_zero, List.getElem?_cons_succ, Bool.false_eq_true, ↓reduceIte, Nat.reduceMod, Nat.reduceDiv, Nat.reduceAdd, Nat.reduceSub, Nat.reduceMul, Nat.reduceLeDiff, Nat.reduceEqDiff, Nat.reduceBEq, Int.reduceToNat, Int.reduceAdd, Int32.reduceOfInt, Int64.reduceOfInt, Int32.reduceToNatClampNeg, Int32.reduceOfNat, Bool.or_self, Bool.or_false, Bool.false_or, Bool.true_or, Bool.or_true, true_and, and_true, false_and, and_false, List.set_cons_zero, List.set_cons_succ, List.take_succ_cons, List.take_zero, List.drop_succ_cons, List.drop_zero, List.reverse_cons, List.reverse_nil, List.nil_append, List.cons_append, List.length_cons, List.length_nil, Option.toList_some, Option.toList_none, not_true_eq_false, not_false_eq_true, forall_const, true_implies, false_implies, nrw, TTS, s177, s148, shM, shO, and01, bI_0, bI_and, isRl, cmpS, toLS, toL_le, toL_lt, i2lS, inM, Int64.reduceLE, Int64.reduceLT, xa_1, xa_2, xa_xa, upd_at, updU, linS, nI_add, nI_s2, clN, inN, inLS, Nat.reduceEqDiff, ↓reduceIte, not_true_eq_false, not_false_eq_true, and_true, true_and, and_false, false_and, and_self, or_true, true_or, or_false, false_or, ↓reduceIte, if_true, if_false, eq_self, hb, hij, hin, hmb, c1, c1']
      exact hq _ (REL_thr hR 0)
    have c1' : 0 ≤ a2 := Int32.not_lt.mp c1
    by_cases c2 : 1 < a2
    · have c2' : ¬ a2 ≤ 1 := Int32.not_le.mpr c2
      refine tri_wp (T := TT [(59, S59), (95, S95T G), (104, S104)]) (ls := [.ref 0, .int (nI j), .int a2]) (TTc t59 (TTc (fun as m Q h => h) (TTc t104 TTn))) c94 (by decide +kernel) (rt0 := some .long) rfl rfl (Nat.le_of_ble_eq_true rfl) rfl ?_
      simp (disch := omega) only [i94, wp_iinc, wpE0, wpE1, wpE2, wpE3, wpE4, wpE5, wpJ, okS, lt4S, popR, litS, Int32.reduceLT, Int32.reduceLE, List.getElem?_cons_zero, List.getElem?_cons_succ, Bool.false_eq_true, ↓reduceIte, Nat.reduceMod, Nat.reduceDiv, Nat.reduceAdd, Nat.reduceSub, Nat.reduceMul, Nat.reduceLeDiff, Nat.reduceEqDiff, Nat.reduceBEq, Int.reduceToNat, Int.reduceAdd, Int32.reduceOfInt, Int64.reduceOfInt, Int32.reduceToNatClampNeg, Int32.reduceOfNat, Bool.or_self, Bool.or_false, Bool.false_or, Bool.true_or, Bool.or_true, true_and, and_true, false_and, and_false, List.set_cons_zero, List.set_cons_succ, List.take_succ_cons, List.take_zero, List.drop_succ_cons, List.drop_zero, List.reverse_cons, List.reverse_nil, List.nil_append, List.cons_append, List.length_cons, List.length_nil, Option.toList_some, Option.toList_none, not_true_eq_false, not_false_eq_true, forall_const, true_implies, false_implies, nrw, TTS, s59, s104, i104, shO, sh7L, and01, bI_0, bI_and, isCl, isRl, cmpS, toLS, toL_le, toL_lt, i2lS, inM, Int64.reduceLE, Int64.reduceLT, xa_1, xa_2, xa_xa, upd_at, updU, Nat.reduceEqDiff, ↓reduceIte, not_true_eq_false, not_false_eq_true, and_true, true_and, and_false, false_and, and_self, or_true, true_or, or_false, false_or, ↓reduceIte, if_true, if_false, eq_self, hb, hij, hin, c1, c1', c2, c2']
      refine h _ _ (fun Q' hq => ?_)
      refine tri_wp (T := TT [(177, S177), (148, S148), (204, S204T G), (205, S205T G)]) (ls := [.ref 86, .int (nI j), .int a2, .null, .null]) (TTc t177 (TTc t148 (TTc (fun as m Q h => h) (TTc (fun as m Q h => h) TTn)))) c203 (by decide +kernel) (rt0 := some .long) rfl rfl (Nat.le_of_ble_eq_true rfl) rfl ?_
      simp (disch := omega) only [i203, wp_iinc, wpE0, wpE1, wpE2, wpE3, wpE4, wpE5, wpJ, okS, lt4S, popR, litS, Int32.reduceLT, Int32.reduceLE, List.getElem?_cons_zero, List.getElem?_cons_succ, Bool.false_eq_true, ↓reduceIte, Nat.reduceMod, Nat.reduceDiv, Nat.reduceAdd, Nat.reduceSub, Nat.reduceMul, Nat.reduceLeDiff, Nat.reduceEqDiff, Nat.reduceBEq, Int.reduceToNat, Int.reduceAdd, Int32.reduceOfInt, Int64.reduceOfInt, Int32.reduceToNatClampNeg, Int32.reduceOfNat, Bool.or_self, Bool.or_false, Bool.false_or, Bool.true_or, Bool.or_true, true_and, and_true, false_and, and_false, List.set_cons_zero, List.set_cons_succ, List.take_succ_cons, List.take_zero, List.drop_succ_cons, List.drop_zero, List.reverse_cons, List.reverse_nil, List.nil_append, List.cons_append, List.length_cons, List.length_nil, Option.toList_some, Option.toList_none, not_true_eq_false, not_false_eq_true, forall_const, true_implies, false_implies, nrw, TTS, s177, s148, shM, shO, and01, bI_0, bI_and, isRl, cmpS, toLS, toL_le, toL_lt, i2lS, inM, Int64.reduceLE, Int64.reduceLT, xa_1, xa_2, xa_xa, upd_at, updU, linS, nI_add, nI_s2, clN, inN, inLS, Nat.reduceEqDiff, ↓reduceIte, not_true_eq_false, not_false_eq_true, and_true, true_and, and_false, false_and, and_self, or_true, true_or, or_false, false_or, ↓reduceIte, if_true, if_false, eq_self, hb, hij, hin, hmb, c1, c1', c2, c2']
      exact hq _ (REL_thr hR 0)
    have c2' : a2 ≤ 1 := Int32.not_lt.mp c2
    by_cases hs : m.1 12 j = 1
    · have hs' : m.1 92 (4 * j + 0) = 1 := r1 ▸ hs
      refine tri_wp (T := TT [(59, S59), (95, S95T G), (104, S104)]) (ls := [.ref 0, .int (nI j), .int a2]) (TTc t59 (TTc (fun as m Q h => h) (TTc t104 TTn))) c94 (by decide +kernel) (rt0 := some .long) rfl rfl (Nat.le_of_ble_eq_true rfl) rfl ?_
      simp (disch := omega) only [i94, wp_iinc, wpE0, wpE1, wpE2, wpE3, wpE4, wpE5, wpJ, okS, lt4S, popR, litS, Int32.reduceLT, Int32.reduceLE, List.getElem?_cons_zero, List.getElem?_cons_succ, Bool.false_eq_true, ↓reduceIte, Nat.reduceMod, Nat.reduceDiv, Nat.reduceAdd, Nat.reduceSub, Nat.reduceMul, Nat.reduceLeDiff, Nat.reduceEqDiff, Nat.reduceBEq, Int.reduceToNat, Int.reduceAdd, Int32.reduceOfInt, Int64.reduceOfInt, Int32.reduceToNatClampNeg, Int32.reduceOfNat, Bool.or_self, Bool.or_false, Bool.false_or, Bool.true_or, Bool.or_true, true_and, and_true, false_and, and_false, List.set_cons_zero, List.set_cons_succ, List.take_succ_cons, List.take_zero, List.drop_succ_cons, List.drop_zero, List.reverse_cons, List.reverse_nil, List.nil_append, List.cons_append, List.length_cons, List.length_nil, Option.toList_some, Option.toList_none, not_true_eq_false, not_false_eq_true, forall_const, true_implies, false_implies, nrw, TTS, s59, s104, i104, shO, sh7L, and01, bI_0, bI_and, isCl, isRl, cmpS, toLS, toL_le, toL_lt, i2lS, inM, Int64.reduceLE, Int64.reduceLT, xa_1, xa_2, xa_xa, upd_at, updU, Nat.reduceEqDiff, ↓reduceIte, not_true_eq_false, not_false_eq_true, and_true, true_and, and_false, false_and, and_self, or_true, true_or, or_false, false_or, ↓reduceIte, if_true, if_false, eq_self, hb, hij, hin, S95T, c1, c1', c2, c2', hs]
      refine t95x hR hjb hs (fun k X0 m2 d1 d2 d3 hRC hx1 hc => ?_)
      have hR2 : REL m2 := REL_fr hR d2 d3
      have e90 : m2.1 90 = m.1 90 := d2 90 (by omega)
      have e92 : m2.1 92 = m.1 92 := d2 92 (by omega)
      have hjk : j < ix (kNb k) := by rw [show kNb k = m.1 7 4 from hRC.1.1.2.2.2.1.trans (R_nb hR)]; exact hjb
      rcases hc with ⟨h1, h2, htw, e5, e6⟩ | ⟨hnt, e5, e6⟩
      · have hb2 := bq_21 (qtk k X0 (nI j) h1 h2) 4096
        by_cases x : a2 = 0
        · have x' : (a2 = 0) = True := eq_true x
          by_cases y : (bq (qtk k X0 (nI j) h1 h2) 4096).1 = 21
          · have y1 : ¬ nI (bq (qtk k X0 (nI j) h1 h2) 4096).1 ≤ 20 := by rw [y]; decide
            simp (disch := omega) only [wp_iinc, wpE0, wpE1, wpE2, wpE3, wpE4, wpE5, wpJ, okS, lt4S, popR, litS, Int32.reduceLT, Int32.reduceLE, List.getElem?_cons_zero, List.getElem?_cons_succ, Bool.false_eq_true, ↓reduceIte, Nat.reduceMod, Nat.reduceDiv, Nat.reduceAdd, Nat.reduceSub, Nat.reduceMul, Nat.reduceLeDiff, Nat.reduceEqDiff, Nat.reduceBEq, Int.reduceToNat, Int.reduceAdd, Int32.reduceOfInt, Int64.reduceOfInt, Int32.reduceToNatClampNeg, Int32.reduceOfNat, Bool.or_self, Bool.or_false, Bool.false_or, Bool.true_or, Bool.or_true, true_and, and_true, false_and, and_false, List.set_cons_zero, List.set_cons_succ, List.take_succ_cons, List.take_zero, List.drop_succ_cons, List.drop_zero, List.reverse_cons, List.reverse_nil, List.nil_append, List.cons_append, List.length_cons, List.length_nil, Option.toList_some, Option.toList_none, not_true_eq_false, not_false_eq_true, forall_const, true_implies, false_implies, nrw, TTS, s104, i104, shO, sh7L, and01, bI_0, bI_and, isCl, isRl, cmpS, toLS, toL_le, toL_lt, i2lS, inM, Int64.reduceLE, Int64.reduceLT, xa_1, xa_2, xa_xa, upd_at, updU, Nat.reduceEqDiff, ↓reduceIte, not_true_eq_false, not_false_eq_true, and_true, true_and, and_false, false_and, and_self, or_true, true_or, or_false, false_or, ↓reduceIte, if_true, if_false, eq_self, x', e5, y1, not_true_eq_false, not_false_eq_true, and_true, true_and, and_false, false_and, and_self, or_true, true_or, or_false, false_or, ↓reduceIte, if_true, if_false, eq_self]
            refine h _ _ (fun Q' hq => ?_)
            refine m203x (k := k) (X0 := X0) (by rw [e90]; exact hRC.1) (by rw [e90, e92]; exact hRC.2.1) hRC.2.2.2.1 hRC.2.2.2.2 hjk (by rw [e90]; exact hmb ▸ hb) ⟨c1', c2'⟩ (by rw [e92, ← r1]; exact hs) (fun hn m3 hm => ?_) (fun g1 g2 ht m3 hm => ?_)
            · exact (two_n htw hn).elim
            · obtain ⟨z1, z2⟩ := two_u htw ht
              subst z1; subst z2
              rw [if_pos y]
              exact hq _ (REL_mf hR2 hm)
          · have y1 : nI (bq (qtk k X0 (nI j) h1 h2) 4096).1 ≤ 20 := nI_le (b := 20) (by omega) (by omega)
            simp (disch := omega) only [wp_iinc, wpE0, wpE1, wpE2, wpE3, wpE4, wpE5, wpJ, okS, lt4S, popR, litS, Int32.reduceLT, Int32.reduceLE, List.getElem?_cons_zero, List.getElem?_cons_succ, Bool.false_eq_true, ↓reduceIte, Nat.reduceMod, Nat.reduceDiv, Nat.reduceAdd, Nat.reduceSub, Nat.reduceMul, Nat.reduceLeDiff, Nat.reduceEqDiff, Nat.reduceBEq, Int.reduceToNat, Int.reduceAdd, Int32.reduceOfInt, Int64.reduceOfInt, Int32.reduceToNatClampNeg, Int32.reduceOfNat, Bool.or_self, Bool.or_false, Bool.false_or, Bool.true_or, Bool.or_true, true_and, and_true, false_and, and_false, List.set_cons_zero, List.set_cons_succ, List.take_succ_cons, List.take_zero, List.drop_succ_cons, List.drop_zero, List.reverse_cons, List.reverse_nil, List.nil_append, List.cons_append, List.length_cons, List.length_nil, Option.toList_some, Option.toList_none, not_true_eq_false, not_false_eq_true, forall_const, true_implies, false_implies, nrw, TTS, s104, i104, shO, sh7L, and01, bI_0, bI_and, isCl, isRl, cmpS, toLS, toL_le, toL_lt, i2lS, inM, Int64.reduceLE, Int64.reduceLT, xa_1, xa_2, xa_xa, upd_at, updU, Nat.reduceEqDiff, ↓reduceIte, not_true_eq_false, not_false_eq_true, and_true, true_and, and_false, false_and, and_self, or_true, true_or, or_false, false_or, ↓reduceIte, if_true, if_false, eq_self, x', e5, y1, not_true_eq_false, not_false_eq_true, and_true, true_and, and_false, false_and, and_self, or_true, true_or, or_false, false_or, ↓reduceIte, if_true, if_false, eq_self]
            refine h _ _ (fun Q' hq => ?_)
            refine m203x (k := k) (X0 := X0) (by rw [e90]; exact hRC.1) (by rw [e90, e92]; exact hRC.2.1) hRC.2.2.2.1 hRC.2.2.2.2 hjk (by rw [e90]; exact hmb ▸ hb) ⟨c1', c2'⟩ (by rw [e92, ← r1]; exact hs) (fun hn m3 hm => ?_) (fun g1 g2 ht m3 hm => ?_)
            · exact (two_n htw hn).elim
            · obtain ⟨z1, z2⟩ := two_u htw ht
              subst z1; subst z2
              rw [if_neg y, if_pos x]
              exact hq _ (REL_mf hR2 hm)
        · by_cases y : (bq (qtk k X0 (nI j) h1 h2) 4096).1 = 21
          · have e7 := bq_n (qtk k X0 (nI j) h1 h2) 4096 y
            rw [e7] at e6
            simp (disch := omega) only [wp_iinc, wpE0, wpE1, wpE2, wpE3, wpE4, wpE5, wpJ, okS, lt4S, popR, litS, Int32.reduceLT, Int32.reduceLE, List.getElem?_cons_zero, List.getElem?_cons_succ, Bool.false_eq_true, ↓reduceIte, Nat.reduceMod, Nat.reduceDiv, Nat.reduceAdd, Nat.reduceSub, Nat.reduceMul, Nat.reduceLeDiff, Nat.reduceEqDiff, Nat.reduceBEq, Int.reduceToNat, Int.reduceAdd, Int32.reduceOfInt, Int64.reduceOfInt, Int32.reduceToNatClampNeg, Int32.reduceOfNat, Bool.or_self, Bool.or_false, Bool.false_or, Bool.true_or, Bool.or_true, true_and, and_true, false_and, and_false, List.set_cons_zero, List.set_cons_succ, List.take_succ_cons, List.take_zero, List.drop_succ_cons, List.drop_zero, List.reverse_cons, List.reverse_nil, List.nil_append, List.cons_append, List.length_cons, List.length_nil, Option.toList_some, Option.toList_none, not_true_eq_false, not_false_eq_true, forall_const, true_implies, false_implies, nrw, TTS, s104, i104, shO, sh7L, and01, bI_0, bI_and, isCl, isRl, cmpS, toLS, toL_le, toL_lt, i2lS, inM, Int64.reduceLE, Int64.reduceLT, xa_1, xa_2, xa_xa, upd_at, updU, Nat.reduceEqDiff, ↓reduceIte, not_true_eq_false, not_false_eq_true, and_true, true_and, and_false, false_and, and_self, or_true, true_or, or_false, false_or, ↓reduceIte, if_true, if_false, eq_self, x, e6, not_true_eq_false, not_false_eq_true, and_true, true_and, and_false, false_and, and_self, or_true, true_or, or_false, false_or, ↓reduceIte, if_true, if_false, eq_self]
            refine h _ _ (fun Q' hq => ?_)
            refine m203x (k := k) (X0 := X0) (by rw [e90]; exact hRC.1) (by rw [e90, e92]; exact hRC.2.1) hRC.2.2.2.1 hRC.2.2.2.2 hjk (by rw [e90]; exact hmb ▸ hb) ⟨c1', c2'⟩ (by rw [e92, ← r1]; exact hs) (fun hn m3 hm => ?_) (fun g1 g2 ht m3 hm => ?_)
            · exact (two_n htw hn).elim
            · obtain ⟨z1, z2⟩ := two_u htw ht
              subst z1; subst z2
              rw [if_pos y]
              exact hq _ (REL_mf hR2 hm)
          · skip
            simp (disch := omega) only [wp_iinc, wpE0, wpE1, wpE2, wpE3, wpE4, wpE5, wpJ, okS, lt4S, popR, litS, Int32.reduceLT, Int32.reduceLE, List.getElem?_cons_zero, List.getElem?_cons_succ, Bool.false_eq_true, ↓reduceIte, Nat.reduceMod, Nat.reduceDiv, Nat.reduceAdd, Nat.reduceSub, Nat.reduceMul, Nat.reduceLeDiff, Nat.reduceEqDiff, Nat.reduceBEq, Int.reduceToNat, Int.reduceAdd, Int32.reduceOfInt, Int64.reduceOfInt, Int32.reduceToNatClampNeg, Int32.reduceOfNat, Bool.or_self, Bool.or_false, Bool.false_or, Bool.true_or, Bool.or_true, true_and, and_true, false_and, and_false, List.set_cons_zero, List.set_cons_succ, List.take_succ_cons, List.take_zero, List.drop_succ_cons, List.drop_zero, List.reverse_cons, List.reverse_nil, List.nil_append, List.cons_append, List.length_cons, List.length_nil, Option.toList_some, Option.toList_none, not_true_eq_false, not_false_eq_true, forall_const, true_implies, false_implies, nrw, TTS, s104, i104, shO, sh7L, and01, bI_0, bI_and, isCl, isRl, cmpS, toLS, toL_le, toL_lt, i2lS, inM, Int64.reduceLE, Int64.reduceLT, xa_1, xa_2, xa_xa, upd_at, updU, Nat.reduceEqDiff, ↓reduceIte, not_true_eq_false, not_false_eq_true, and_true, true_and, and_false, false_and, and_self, or_true, true_or, or_false, false_or, ↓reduceIte, if_true, if_false, eq_self, x, e6, not_true_eq_false, not_false_eq_true, and_true, true_and, and_false, false_and, and_self, or_true, true_or, or_false, false_or, ↓reduceIte, if_true, if_false, eq_self]
            refine h _ _ (fun Q' hq => ?_)
            refine m203x (k := k) (X0 := X0) (by rw [e90]; exact hRC.1) (by rw [e90, e92]; exact hRC.2.1) hRC.2.2.2.1 hRC.2.2.2.2 hjk (by rw [e90]; exact hmb ▸ hb) ⟨c1', c2'⟩ (by rw [e92, ← r1]; exact hs) (fun hn m3 hm => ?_) (fun g1 g2 ht m3 hm => ?_)
            · exact (two_n htw hn).elim
            · obtain ⟨z1, z2⟩ := two_u htw ht
              subst z1; subst z2
              rw [if_neg y, if_neg x]
              exact hq _ (REL_mf hR2 hm)
      · by_cases x : a2 = 0
        · have x' : (a2 = 0) = True := eq_true x
          simp (disch := omega) only [wp_iinc, wpE0, wpE1, wpE2, wpE3, wpE4, wpE5, wpJ, okS, lt4S, popR, litS, Int32.reduceLT, Int32.reduceLE, List.getElem?_cons_zero, List.getElem?_cons_succ, Bool.false_eq_true, ↓reduceIte, Nat.reduceMod, Nat.reduceDiv, Nat.reduceAdd, Nat.reduceSub, Nat.reduceMul, Nat.reduceLeDiff, Nat.reduceEqDiff, Nat.reduceBEq, Int.reduceToNat, Int.reduceAdd, Int32.reduceOfInt, Int64.reduceOfInt, Int32.reduceToNatClampNeg, Int32.reduceOfNat, Bool.or_self, Bool.or_false, Bool.false_or, Bool.true_or, Bool.or_true, true_and, and_true, false_and, and_false, List.set_cons_zero, List.set_cons_succ, List.take_succ_cons, List.take_zero, List.drop_succ_cons, List.drop_zero, List.reverse_cons, List.reverse_nil, List.nil_append, List.cons_append, List.length_cons, List.length_nil, Option.toList_some, Option.toList_none, not_true_eq_false, not_false_eq_true, forall_const, true_implies, false_implies, nrw, TTS, s104, i104, shO, sh7L, and01, bI_0, bI_and, isCl, isRl, cmpS, toLS, toL_le, toL_lt, i2lS, inM, Int64.reduceLE, Int64.reduceLT, xa_1, xa_2, xa_xa, upd_at, updU, Nat.reduceEqDiff, ↓reduceIte, not_true_eq_false, not_false_eq_true, and_true, true_and, and_false, false_and, and_self, or_true, true_or, or_false, false_or, ↓reduceIte, if_true, if_false, eq_self, x', e5, not_true_eq_false, not_false_eq_true, and_true, true_and, and_false, false_and, and_self, or_true, true_or, or_false, false_or, ↓reduceIte, if_true, if_false, eq_self]
          refine h _ _ (fun Q' hq => ?_)
          refine m203x (k := k) (X0 := X0) (by rw [e90]; exact hRC.1) (by rw [e90, e92]; exact hRC.2.1) hRC.2.2.2.1 hRC.2.2.2.2 hjk (by rw [e90]; exact hmb ▸ hb) ⟨c1', c2'⟩ (by rw [e92, ← r1]; exact hs) (fun hn m3 hm => ?_) (fun g1 g2 ht m3 hm => ?_)
          · exact hq _ (REL_mf hR2 hm)
          · exact (two_n ht hnt).elim
        · skip
          simp (disch := omega) only [wp_iinc, wpE0, wpE1, wpE2, wpE3, wpE4, wpE5, wpJ, okS, lt4S, popR, litS, Int32.reduceLT, Int32.reduceLE, List.getElem?_cons_zero, List.getElem?_cons_succ, Bool.false_eq_true, ↓reduceIte, Nat.reduceMod, Nat.reduceDiv, Nat.reduceAdd, Nat.reduceSub, Nat.reduceMul, Nat.reduceLeDiff, Nat.reduceEqDiff, Nat.reduceBEq, Int.reduceToNat, Int.reduceAdd, Int32.reduceOfInt, Int64.reduceOfInt, Int32.reduceToNatClampNeg, Int32.reduceOfNat, Bool.or_self, Bool.or_false, Bool.false_or, Bool.true_or, Bool.or_true, true_and, and_true, false_and, and_false, List.set_cons_zero, List.set_cons_succ, List.take_succ_cons, List.take_zero, List.drop_succ_cons, List.drop_zero, List.reverse_cons, List.reverse_nil, List.nil_append, List.cons_append, List.length_cons, List.length_nil, Option.toList_some, Option.toList_none, not_true_eq_false, not_false_eq_true, forall_const, true_implies, false_implies, nrw, TTS, s104, i104, shO, sh7L, and01, bI_0, bI_and, isCl, isRl, cmpS, toLS, toL_le, toL_lt, i2lS, inM, Int64.reduceLE, Int64.reduceLT, xa_1, xa_2, xa_xa, upd_at, updU, Nat.reduceEqDiff, ↓reduceIte, not_true_eq_false, not_false_eq_true, and_true, true_and, and_false, false_and, and_self, or_true, true_or, or_false, false_or, ↓reduceIte, if_true, if_false, eq_self, x, e6, not_true_eq_false, not_false_eq_true, and_true, true_and, and_false, false_and, and_self, or_true, true_or, or_false, false_or, ↓reduceIte, if_true, if_false, eq_self]
          refine h _ _ (fun Q' hq => ?_)
          refine m203x (k := k) (X0 := X0) (by rw [e90]; exact hRC.1) (by rw [e90, e92]; exact hRC.2.1) hRC.2.2.2.1 hRC.2.2.2.2 hjk (by rw [e90]; exact hmb ▸ hb) ⟨c1', c2'⟩ (by rw [e92, ← r1]; exact hs) (fun hn m3 hm => ?_) (fun g1 g2 ht m3 hm => ?_)
          · exact hq _ (REL_mf hR2 hm)
          · exact (two_n ht hnt).elim

    have hs' : ¬ m.1 92 (4 * j + 0) = 1 := r1 ▸ hs
    refine tri_wp (T := TT [(59, S59), (95, S95T G), (104, S104)]) (ls := [.ref 0, .int (nI j), .int a2]) (TTc t59 (TTc (fun as m Q h => h) (TTc t104 TTn))) c94 (by decide +kernel) (rt0 := some .long) rfl rfl (Nat.le_of_ble_eq_true rfl) rfl ?_
    simp (disch := omega) only [i94, wp_iinc, wpE0, wpE1, wpE2, wpE3, wpE4, wpE5, wpJ, okS, lt4S, popR, litS, Int32.reduceLT, Int32.reduceLE, List.getElem?_cons_zero, List.getElem?_cons_succ, Bool.false_eq_true, ↓reduceIte, Nat.reduceMod, Nat.reduceDiv, Nat.reduceAdd, Nat.reduceSub, Nat.reduceMul, Nat.reduceLeDiff, Nat.reduceEqDiff, Nat.reduceBEq, Int.reduceToNat, Int.reduceAdd, Int32.reduceOfInt, Int64.reduceOfInt, Int32.reduceToNatClampNeg, Int32.reduceOfNat, Bool.or_self, Bool.or_false, Bool.false_or, Bool.true_or, Bool.or_true, true_and, and_true, false_and, and_false, List.set_cons_zero, List.set_cons_succ, List.take_succ_cons, List.take_zero, List.drop_succ_cons, List.drop_zero, List.reverse_cons, List.reverse_nil, List.nil_append, List.cons_append, List.length_cons, List.length_nil, Option.toList_some, Option.toList_none, not_true_eq_false, not_false_eq_true, forall_const, true_implies, false_implies, nrw, TTS, s59, s104, i104, shO, sh7L, and01, bI_0, bI_and, isCl, isRl, cmpS, toLS, toL_le, toL_lt, i2lS, inM, Int64.reduceLE, Int64.reduceLT, xa_1, xa_2, xa_xa, upd_at, updU, Nat.reduceEqDiff, ↓reduceIte, not_true_eq_false, not_false_eq_true, and_true, true_and, and_false, false_and, and_self, or_true, true_or, or_false, false_or, ↓reduceIte, if_true, if_false, eq_self, hb, hij, hin, c1, c1', c2, c2', hs]
    refine h _ _ (fun Q' hq => ?_)
    refine tri_wp (T := TT [(177, S177), (148, S148), (204, S204T G), (205, S205T G)]) (ls := [.ref 86, .int (nI j), .int a2, .null, .null]) (TTc t177 (TTc t148 (TTc (fun as m Q h => h) (TTc (fun as m Q h => h) TTn)))) c203 (by decide +kernel) (rt0 := some .long) rfl rfl (Nat.le_of_ble_eq_true rfl) rfl ?_
    simp (disch := omega) only [i203, wp_iinc, wpE0, wpE1, wpE2, wpE3, wpE4, wpE5, wpJ, okS, lt4S, popR, litS, Int32.reduceLT, Int32.reduceLE, List.getElem?_cons_zero, List.getElem?_cons_succ, Bool.false_eq_true, ↓reduceIte, Nat.reduceMod, Nat.reduceDiv, Nat.reduceAdd, Nat.reduceSub, Nat.reduceMul, Nat.reduceLeDiff, Nat.reduceEqDiff, Nat.reduceBEq, Int.reduceToNat, Int.reduceAdd, Int32.reduceOfInt, Int64.reduceOfInt, Int32.reduceToNatClampNeg, Int32.reduceOfNat, Bool.or_self, Bool.or_false, Bool.false_or, Bool.true_or, Bool.or_true, true_and, and_true, false_and, and_false, List.set_cons_zero, List.set_cons_succ, List.take_succ_cons, List.take_zero, List.drop_succ_cons, List.drop_zero, List.reverse_cons, List.reverse_nil, List.nil_append, List.cons_append, List.length_cons, List.length_nil, Option.toList_some, Option.toList_none, not_true_eq_false, not_false_eq_true, forall_const, true_implies, false_implies, nrw, TTS, s177, s148, shM, shO, and01, bI_0, bI_and, isRl, cmpS, toLS, toL_le, toL_lt, i2lS, inM, Int64.reduceLE, Int64.reduceLT, xa_1, xa_2, xa_xa, upd_at, updU, linS, nI_add, nI_s2, clN, inN, inLS, Nat.reduceEqDiff, ↓reduceIte, not_true_eq_false, not_false_eq_true, and_true, true_and, and_false, false_and, and_self, or_true, true_or, or_false, false_or, ↓reduceIte, if_true, if_false, eq_self, hb, hij, hin, hmb, c1, c1', c2, c2', hs']
    exact hq _ (REL_thr hR 0)
  · have hmb := m_isB hR a
    refine tri_wp (T := TT [(59, S59), (95, S95T G), (104, S104)]) (ls := [.ref 0, .int a, .int a2]) (TTc t59 (TTc (fun as m Q h => h) (TTc t104 TTn))) c94 (by decide +kernel) (rt0 := some .long) rfl rfl (Nat.le_of_ble_eq_true rfl) rfl ?_
    simp (disch := omega) only [i94, wp_iinc, wpE0, wpE1, wpE2, wpE3, wpE4, wpE5, wpJ, okS, lt4S, popR, litS, Int32.reduceLT, Int32.reduceLE, List.getElem?_cons_zero, List.getElem?_cons_succ, Bool.false_eq_true, ↓reduceIte, Nat.reduceMod, Nat.reduceDiv, Nat.reduceAdd, Nat.reduceSub, Nat.reduceMul, Nat.reduceLeDiff, Nat.reduceEqDiff, Nat.reduceBEq, Int.reduceToNat, Int.reduceAdd, Int32.reduceOfInt, Int64.reduceOfInt, Int32.reduceToNatClampNeg, Int32.reduceOfNat, Bool.or_self, Bool.or_false, Bool.false_or, Bool.true_or, Bool.or_true, true_and, and_true, false_and, and_false, List.set_cons_zero, List.set_cons_succ, List.take_succ_cons, List.take_zero, List.drop_succ_cons, List.drop_zero, List.reverse_cons, List.reverse_nil, List.nil_append, List.cons_append, List.length_cons, List.length_nil, Option.toList_some, Option.toList_none, not_true_eq_false, not_false_eq_true, forall_const, true_implies, false_implies, nrw, TTS, s59, s104, i104, shO, sh7L, and01, bI_0, bI_and, isCl, isRl, cmpS, toLS, toL_le, toL_lt, i2lS, inM, Int64.reduceLE, Int64.reduceLT, xa_1, xa_2, xa_xa, upd_at, updU, Nat.reduceEqDiff, ↓reduceIte, not_true_eq_false, not_false_eq_true, and_true, true_and, and_false, false_and, and_self, or_true, true_or, or_false, false_or, ↓reduceIte, if_true, if_false, eq_self, hb]
    refine h _ _ (fun Q' hq => ?_)
    refine tri_wp (T := TT [(177, S177), (148, S148), (204, S204T G), (205, S205T G)]) (ls := [.ref 86, .int a, .int a2, .null, .null]) (TTc t177 (TTc t148 (TTc (fun as m Q h => h) (TTc (fun as m Q h => h) TTn)))) c203 (by decide +kernel) (rt0 := some .long) rfl rfl (Nat.le_of_ble_eq_true rfl) rfl ?_
    simp (disch := omega) only [i203, wp_iinc, wpE0, wpE1, wpE2, wpE3, wpE4, wpE5, wpJ, okS, lt4S, popR, litS, Int32.reduceLT, Int32.reduceLE, List.getElem?_cons_zero, List.getElem?_cons_succ, Bool.false_eq_true, ↓reduceIte, Nat.reduceMod, Nat.reduceDiv, Nat.reduceAdd, Nat.reduceSub, Nat.reduceMul, Nat.reduceLeDiff, Nat.reduceEqDiff, Nat.reduceBEq, Int.reduceToNat, Int.reduceAdd, Int32.reduceOfInt, Int64.reduceOfInt, Int32.reduceToNatClampNeg, Int32.reduceOfNat, Bool.or_self, Bool.or_false, Bool.false_or, Bool.true_or, Bool.or_true, true_and, and_true, false_and, and_false, List.set_cons_zero, List.set_cons_succ, List.take_succ_cons, List.take_zero, List.drop_succ_cons, List.drop_zero, List.reverse_cons, List.reverse_nil, List.nil_append, List.cons_append, List.length_cons, List.length_nil, Option.toList_some, Option.toList_none, not_true_eq_false, not_false_eq_true, forall_const, true_implies, false_implies, nrw, TTS, s177, s148, shM, shO, and01, bI_0, bI_and, isRl, cmpS, toLS, toL_le, toL_lt, i2lS, inM, Int64.reduceLE, Int64.reduceLT, xa_1, xa_2, xa_xa, upd_at, updU, linS, nI_add, nI_s2, clN, inN, inLS, Nat.reduceEqDiff, ↓reduceIte, not_true_eq_false, not_false_eq_true, and_true, true_and, and_false, false_and, and_self, or_true, true_or, or_false, false_or, ↓reduceIte, if_true, if_false, eq_self, hb, hmb]
    exact hq _ (REL_thr hR 0)

