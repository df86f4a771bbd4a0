theorem t99x {G : xG} {m : xM} {Q : xQt} {k : KK} {X0 : X6} {j h1 h2 r fr f : Nat} {p : Int32} (hkk : kk m 65 = k) (hvk : VKK k) (hvx : VXX k X0) (hj : j < ix (kNb k)) (hh : h1 ≠ h2) (hh1 : h1 < 12) (hh2 : h2 < 12) (h3 : m.1 64 3 = nI h1) (h4 : m.1 64 4 = nI h2) (h79 : m.1 79 0 = 1) (n12 : m.1 65 5 ≤ 12) (h5 : m.1 64 5 = nI f) (h6 : m.1 64 6 = p) (hf : 1 ≤ f ∧ f ≤ 21) (hr : r < 4096) (hfr : (fr = 1 ∧ r % 256 = 0) ∨ (fr = 2 ∧ ¬ r % 256 = 0 ∧ r % 16 = 0) ∨ (fr = 3 ∧ ¬ r % 256 = 0 ∧ ¬ r % 16 = 0)) (hno : f ≤ (qtk k X0 (nI j) h1 h2 r) ∨ fr ≤ (qtk k X0 (nI j) h1 h2 r)) (hq0 : qhd (m.1 80) 0 X0 j) (hd1 : 2 ≤ fr → 1 < f → qhd (m.1 80) 1 (qrn k X0 (nI j) h1 h2 r 1) j) (hd2 : 3 ≤ fr → 2 < f → qhd (m.1 80) 2 (qrn k X0 (nI j) h1 h2 r 2) j) (hX2 : qfr j X0 (g6 m 65)) (hq : ∀ Y L fw pl, (((qtk k X0 (nI j) h1 h2 r) < f ∧ fw = (qtk k X0 (nI j) h1 h2 r) ∧ pl = nI (r / 256)) ∨ (f ≤ (qtk k X0 (nI j) h1 h2 r) ∧ fw = f ∧ pl = p)) → qfr j X0 Y → qhd L 0 X0 j → (1 < fw → qhd L 1 (qrn k X0 (nI j) h1 h2 r 1) j) → (2 < fw → qhd L 2 (qrn k X0 (nI j) h1 h2 r 2) j) → Q none (mq m Y L fw pl)) : Tri G 99 [.ref 64, .int (nI j), .int (nI r)] m Q := by
  have nb6 : ix (kNb k) ≤ 6 := (ix_b (n := 6) (by decide) hvk.1.2.2.2.1).1
  have nh12 : ix (kNh k) ≤ 12 := (ix_b (n := 12) (by decide) hvk.1.2.2.2.2).1
  have hj6 : j < 6 := by omega
  have hjj : ix (nI j) = j := ix_nI (by omega)
  have a1 : nI r / 256 = nI (r / 256) := pk_div (d := 256) (by omega) (by omega) (by omega)
  have a2 : nI (r / 256) * 256 = nI (r / 256 * 256) := pk_mul _ 256
  have a3 : nI r - nI (r / 256 * 256) = nI (r % 256) := by rw [nI_sub (by omega)]; congr 1; omega
  have a4 : nI r / 16 = nI (r / 16) := pk_div (d := 16) (by omega) (by omega) (by omega)
  have a5 : nI r - nI (r / 16 * 16) = nI (r % 16) := by rw [nI_sub (by omega)]; congr 1; omega
  refine tri_vc (ls := [.ref 64, .int (nI j), .int (nI r), .null, .null, .null, .null]) (by decide +kernel) rfl (Nat.le_of_ble_eq_true rfl) ?_
  refine vc_cut 34 [.ref 64, .int (nI j), .int (nI r), .int (nI fr), .int (nI fr), .null, .null] (fun m1 => ∃ Y, m1 = s6 m 65 Y ∧ qfr j (g6 m 65) Y ∧ qhd (m.1 80) (fr - 1) Y j) (vc_wp (T := TT [(101, S101T G), (102, S102T G), (97, S97T G), (100, S100T G)]) (TTc (fun as m Q h => h) (TTc (fun as m Q h => h) (TTc (fun as m Q h => h) (TTc (fun as m Q h => h) TTn)))) (fun p => p == 34) (rt0 := none) rfl c99 rfl ?_) ?_
  · rcases hfr with ⟨rfl, e1⟩ | ⟨rfl, e1, e2⟩ | ⟨rfl, e1, e2⟩
    · have z1 : nI (r % 256) = 0 := by rw [e1]; rfl
      simp (disch := omega) only [i99, wp_iinc, wpE0, wpE1, wpE2, wpE3, wpE4, wpE5, wpJ, okS, lt4S, popR, litS, Int32.reduceLT, Int32.reduceLE, List.getElem?_cons_zero, List.getElem?_cons_succ, Bool.false_eq_true, ↓reduceIte, Nat.reduceMod, Nat.reduceDiv, Nat.reduceAdd, Nat.reduceSub, Nat.reduceMul, Nat.reduceLeDiff, Nat.reduceEqDiff, Nat.reduceBEq, Int.reduceToNat, Int.reduceAdd, Int32.reduceOfInt, Int64.reduceOfInt, Int32.reduceToNatClampNeg, Int32.reduceOfNat, Bool.or_self, Bool.or_false, Bool.false_or, Bool.true_or, Bool.or_true, true_and, and_true, false_and, and_false, List.set_cons_zero, List.set_cons_succ, List.take_succ_cons, List.take_zero, List.drop_succ_cons, List.drop_zero, List.reverse_cons, List.reverse_nil, List.nil_append, List.cons_append, List.length_cons, List.length_nil, Option.toList_some, Option.toList_none, not_true_eq_false, not_false_eq_true, forall_const, true_implies, false_implies, nrw, TTS, shO, sh7L, and01, bI_0, bI_and, isCl, isRl, cmpS, toLS, toL_le, toL_lt, i2lS, inM, Int64.reduceLE, Int64.reduceLT, xa_1, xa_2, xa_xa, upd_at, updU, Nat.reduceEqDiff, ↓reduceIte, not_true_eq_false, not_false_eq_true, and_true, true_and, and_false, false_and, and_self, or_true, true_or, or_false, false_or, ↓reduceIte, if_true, if_false, eq_self, sh65L, clN, inN, inLS, linS, nI_add, S100T, lq16, a1, a2, a3, a4, a5, z1, not_true_eq_false, not_false_eq_true, and_true, true_and, and_false, false_and, and_self, or_true, true_or, or_false, false_or, ↓reduceIte, if_true, if_false, eq_self]
      refine t100x (t := 0) hj6 (by omega) (fun Y y1 y2 => ?_)
      simp (disch := omega) only [wp_iinc, wpE0, wpE1, wpE2, wpE3, wpE4, wpE5, wpJ, okS, lt4S, popR, litS, Int32.reduceLT, Int32.reduceLE, List.getElem?_cons_zero, List.getElem?_cons_succ, Bool.false_eq_true, ↓reduceIte, Nat.reduceMod, Nat.reduceDiv, Nat.reduceAdd, Nat.reduceSub, Nat.reduceMul, Nat.reduceLeDiff, Nat.reduceEqDiff, Nat.reduceBEq, Int.reduceToNat, Int.reduceAdd, Int32.reduceOfInt, Int64.reduceOfInt, Int32.reduceToNatClampNeg, Int32.reduceOfNat, Bool.or_self, Bool.or_false, Bool.false_or, Bool.true_or, Bool.or_true, true_and, and_true, false_and, and_false, List.set_cons_zero, List.set_cons_succ, List.take_succ_cons, List.take_zero, List.drop_succ_cons, List.drop_zero, List.reverse_cons, List.reverse_nil, List.nil_append, List.cons_append, List.length_cons, List.length_nil, Option.toList_some, Option.toList_none, not_true_eq_false, not_false_eq_true, forall_const, true_implies, false_implies, nrw, TTS, shO, sh7L, and01, bI_0, bI_and, isCl, isRl, cmpS, toLS, toL_le, toL_lt, i2lS, inM, Int64.reduceLE, Int64.reduceLT, xa_1, xa_2, xa_xa, upd_at, updU, Nat.reduceEqDiff, ↓reduceIte, not_true_eq_false, not_false_eq_true, and_true, true_and, and_false, false_and, and_self, or_true, true_or, or_false, false_or, ↓reduceIte, if_true, if_false, eq_self, sh65L, clN, inN, inLS, linS, nI_add, subS, (show nI 1 = 1 from rfl), not_true_eq_false, not_false_eq_true, and_true, true_and, and_false, false_and, and_self, or_true, true_or, or_false, false_or, ↓reduceIte, if_true, if_false, eq_self]
      exact ⟨Y, rfl, y1, y2⟩
    · have z1 : ¬ nI (r % 256) = 0 := nI_ne0 (by omega) (by omega)
      have z2 : nI (r % 16) = 0 := by rw [e2]; rfl
      simp (disch := omega) only [i99, wp_iinc, wpE0, wpE1, wpE2, wpE3, wpE4, wpE5, wpJ, okS, lt4S, popR, litS, Int32.reduceLT, Int32.reduceLE, List.getElem?_cons_zero, List.getElem?_cons_succ, Bool.false_eq_true, ↓reduceIte, Nat.reduceMod, Nat.reduceDiv, Nat.reduceAdd, Nat.reduceSub, Nat.reduceMul, Nat.reduceLeDiff, Nat.reduceEqDiff, Nat.reduceBEq, Int.reduceToNat, Int.reduceAdd, Int32.reduceOfInt, Int64.reduceOfInt, Int32.reduceToNatClampNeg, Int32.reduceOfNat, Bool.or_self, Bool.or_false, Bool.false_or, Bool.true_or, Bool.or_true, true_and, and_true, false_and, and_false, List.set_cons_zero, List.set_cons_succ, List.take_succ_cons, List.take_zero, List.drop_succ_cons, List.drop_zero, List.reverse_cons, List.reverse_nil, List.nil_append, List.cons_append, List.length_cons, List.length_nil, Option.toList_some, Option.toList_none, not_true_eq_false, not_false_eq_true, forall_const, true_implies, false_implies, nrw, TTS, shO, sh7L, and01, bI_0, bI_and, isCl, isRl, cmpS, toLS, toL_le, toL_lt, i2lS, inM, Int64.reduceLE, Int64.reduceLT, xa_1, xa_2, xa_xa, upd_at, updU, Nat.reduceEqDiff, ↓reduceIte, not_true_eq_false, not_false_eq_true, and_true, true_and, and_false, false_and, and_self, or_true, true_or, or_false, false_or, ↓reduceIte, if_true, if_false, eq_self, sh65L, clN, inN, inLS, linS, nI_add, S100T, lq16, a1, a2, a3, a4, a5, z1, z2, not_true_eq_false, not_false_eq_true, and_true, true_and, and_false, false_and, and_self, or_true, true_or, or_false, false_or, ↓reduceIte, if_true, if_false, eq_self]
      refine t100x (t := 1) hj6 (by omega) (fun Y y1 y2 => ?_)
      simp (disch := omega) only [wp_iinc, wpE0, wpE1, wpE2, wpE3, wpE4, wpE5, wpJ, okS, lt4S, popR, litS, Int32.reduceLT, Int32.reduceLE, List.getElem?_cons_zero, List.getElem?_cons_succ, Bool.false_eq_true, ↓reduceIte, Nat.reduceMod, Nat.reduceDiv, Nat.reduceAdd, Nat.reduceSub, Nat.reduceMul, Nat.reduceLeDiff, Nat.reduceEqDiff, Nat.reduceBEq, Int.reduceToNat, Int.reduceAdd, Int32.reduceOfInt, Int64.reduceOfInt, Int32.reduceToNatClampNeg, Int32.reduceOfNat, Bool.or_self, Bool.or_false, Bool.false_or, Bool.true_or, Bool.or_true, true_and, and_true, false_and, and_false, List.set_cons_zero, List.set_cons_succ, List.take_succ_cons, List.take_zero, List.drop_succ_cons, List.drop_zero, List.reverse_cons, List.reverse_nil, List.nil_append, List.cons_append, List.length_cons, List.length_nil, Option.toList_some, Option.toList_none, not_true_eq_false, not_false_eq_true, forall_const, true_implies, false_implies, nrw, TTS, shO, sh7L, and01, bI_0, bI_and, isCl, isRl, cmpS, toLS, toL_le, toL_lt, i2lS, inM, Int64.reduceLE, Int64.reduceLT, xa_1, xa_2, xa_xa, upd_at, updU, Nat.reduceEqDiff, ↓reduceIte, not_true_eq_false, not_false_eq_true, and_true, true_and, and_false, false_and, and_self, or_true, true_or, or_false, false_or, ↓reduceIte, if_true, if_false, eq_self, sh65L, clN, inN, inLS, linS, nI_add, subS, (show nI 2 = 2 from rfl), not_true_eq_false, not_false_eq_true, and_true, true_and, and_false, false_and, and_self, or_true, true_or, or_false, false_or, ↓reduceIte, if_true, if_false, eq_self]
      exact ⟨Y, rfl, y1, y2⟩
    · have z1 : ¬ nI (r % 256) = 0 := nI_ne0 (by omega) (by omega)
      have z2 : ¬ nI (r % 16) = 0 := nI_ne0 (by omega) (by omega)
      simp (disch := omega) only [i99, wp_iinc, wpE0, wpE1, wpE2, wpE3, wpE4, wpE5, wpJ, okS, lt4S, popR, litS, Int32.reduceLT, Int32.reduceLE, List.getElem?_cons_zero, List.getElem?_cons_succ, Bool.false_eq_true, ↓reduceIte, Nat.reduceMod, Nat.reduceDiv, Nat.reduceAdd, Nat.reduceSub, Nat.reduceMul, Nat.reduceLeDiff, Nat.reduceEqDiff, Nat.reduceBEq, Int.reduceToNat, Int.reduceAdd, Int32.reduceOfInt, Int64.reduceOfInt, Int32.reduceToNatClampNeg, Int32.reduceOfNat, Bool.or_self, Bool.or_false, Bool.false_or, Bool.true_or, Bool.or_true, true_and, and_true, false_and, and_false, List.set_cons_zero, List.set_cons_succ, List.take_succ_cons, List.take_zero, List.drop_succ_cons, List.drop_zero, List.reverse_cons, List.reverse_nil, List.nil_append, List.cons_append, List.length_cons, List.length_nil, Option.toList_some, Option.toList_none, not_true_eq_false, not_false_eq_true, forall_const, true_implies, false_implies, nrw, TTS, shO, sh7L, and01, bI_0, bI_and, isCl, isRl, cmpS, toLS, toL_le, toL_lt, i2lS, inM, Int64.reduceLE, Int64.reduceLT, xa_1, xa_2, xa_xa, upd_at, updU, Nat.reduceEqDiff, ↓reduceIte, not_true_eq_false, not_false_eq_true, and_true, true_and, and_false, false_and, and_self, or_true, true_or, or_false, false_or, ↓reduceIte, if_true, if_false, eq_self, sh65L, clN, inN, inLS, linS, nI_add, S100T, lq16, a1, a2, a3, a4, a5, z1, z2, not_true_eq_false, not_false_eq_true, and_true, true_and, and_false, false_and, and_self, or_true, true_or, or_false, false_or, ↓reduceIte, if_true, if_false, eq_self]
      refine t100x (t := 2) hj6 (by omega) (fun Y y1 y2 => ?_)
      simp (disch := omega) only [wp_iinc, wpE0, wpE1, wpE2, wpE3, wpE4, wpE5, wpJ, okS, lt4S, popR, litS, Int32.reduceLT, Int32.reduceLE, List.getElem?_cons_zero, List.getElem?_cons_succ, Bool.false_eq_true, ↓reduceIte, Nat.reduceMod, Nat.reduceDiv, Nat.reduceAdd, Nat.reduceSub, Nat.reduceMul, Nat.reduceLeDiff, Nat.reduceEqDiff, Nat.reduceBEq, Int.reduceToNat, Int.reduceAdd, Int32.reduceOfInt, Int64.reduceOfInt, Int32.reduceToNatClampNeg, Int32.reduceOfNat, Bool.or_self, Bool.or_false, Bool.false_or, Bool.true_or, Bool.or_true, true_and, and_true, false_and, and_false, List.set_cons_zero, List.set_cons_succ, List.take_succ_cons, List.take_zero, List.drop_succ_cons, List.drop_zero, List.reverse_cons, List.reverse_nil, List.nil_append, List.cons_append, List.length_cons, List.length_nil, Option.toList_some, Option.toList_none, not_true_eq_false, not_false_eq_true, forall_const, true_implies, false_implies, nrw, TTS, shO, sh7L, and01, bI_0, bI_and, isCl, isRl, cmpS, toLS, toL_le, toL_lt, i2lS, inM, Int64.reduceLE, Int64.reduceLT, xa_1, xa_2, xa_xa, upd_at, updU, Nat.reduceEqDiff, ↓reduceIte, not_true_eq_false, not_false_eq_true, and_true, true_and, and_false, false_and, and_self, or_true, true_or, or_false, false_or, ↓reduceIte, if_true, if_false, eq_self, sh65L, clN, inN, inLS, linS, nI_add, subS, (show nI 3 = 3 from rfl), not_true_eq_false, not_false_eq_true, and_true, true_and, and_false, false_and, and_self, or_true, true_or, or_false, false_or, ↓reduceIte, if_true, if_false, eq_self]
      exact ⟨Y, rfl, y1, y2⟩
  · rintro m1 ⟨Y, rfl, fY, hY⟩
    have hfb : 1 ≤ fr ∧ fr ≤ 3 := by omega
    obtain ⟨q1, q2, q3, q4, -⟩ := q65 m Y
    refine v99 (m := s6 m 65 Y) (k := k) (X0 := X0) (p := p) ((kk_s6 m 65 Y).trans hkk) hvk hvx hj hh hh1 hh2 (by rw [q1]; exact h3) (by rw [q1]; exact h4) (by rw [q3]; exact h79) (by rw [q2]; exact n12) (by rw [q1]; exact h5) (by rw [q1]; exact h6) hf hr hfb hno (by rw [q4]; exact hq0) (by rw [q4]; exact hd1) (by rw [q4]; exact hd2) (fun hlt => ?_) ?_ (fun Y' L fw pl z1 z2 z3 z4 z5 => ?_)
    · rw [g6_s6]
      have hh0 : qhd (m.1 80) (fr - 1) (qrn k X0 (nI j) h1 h2 r (fr - 1)) j := by
        rcases (by omega : fr = 1 ∨ fr = 2 ∨ fr = 3) with e | e | e
        · rw [e]; exact hq0
        · have := hd1 (by omega) (by omega)
          rw [e]; exact this
        · have := hd2 (by omega) (by omega)
          rw [e]; exact this
      have f2 := qfr_qrn (k := k) (X := X0) (b := nI j) (h1 := h1) (h2 := h2) (r := r) nh12 hh1 hh2 (fr - 1)
      rw [hjj] at f2
      exact ⟨_, qhd_eq hY hh0 (qfr_t hX2 fY) f2⟩
    · rw [g6_s6]; exact qfr_t hX2 fY
    · rw [s6_mq]; exact hq Y' L fw pl z1 z2 z3 z4 z5


def S52T (G : xG) (as : List Value) (m : xM) (Q : xQt) : Prop := Tri G 52 as m Q
def S96T (G : xG) (as : List Value) (m : xM) (Q : xQt) : Prop := Tri G 96 as m Q
def S98T (G : xG) (as : List Value) (m : xM) (Q : xQt) : Prop := Tri G 98 as m Q
def S99T (G : xG) (as : List Value) (m : xM) (Q : xQt) : Prop := Tri G 99 as m Q
theorem mq_fr (m : xM) (X : X6) (K : Nat → Int32) (f : Nat) (p : Int32) {q : Nat} (h : q < 64 ∨ 80 < q) : (mq m X K f p).1 q = m.1 q := (xa_ne (by omega)).trans <| (xa_ne (by omega)).trans (s6_o (by omega))
/-- a hand that can, of this boat -/
abbrev abl (k : KK) (X : X6) (j h : Nat) : Prop := kBo k h = nI j ∧ ¬ xGr X h ≤ 0
/-- two hands, the first ones -/
def two (k : KK) (X : X6) (j h1 h2 : Nat) : Prop := h1 < h2 ∧ h2 < ix (kNh k) ∧ abl k X j h1 ∧ abl k X j h2 ∧ (∀ h, h < h1 → ¬ abl k X j h) ∧ ∀ h, h1 < h → h < h2 → ¬ abl k X j h
def nTw (k : KK) (X : X6) (j : Nat) : Prop := ∀ u v, u < v → v < ix (kNh k) → abl k X j u → ¬ abl k X j v
theorem bq_1 {T : Nat → Nat} (hT : ∀ r, 1 ≤ T r) : ∀ R, 1 ≤ (bq T R).1
  | 0 => Nat.le_add_left 1 20
  | R + 1 => by
    by_cases e : T R < (bq T R).1
    · rw [bq_take e]; exact hT R
    · rw [bq_skip (by omega)]; exact bq_1 hT R
theorem qtk_1 (k : KK) (X : X6) (b : Int32) (h1 h2 r : Nat) : 1 ≤ qtk k X b h1 h2 r := Nat.le_add_left _ _

def PBs (m : xM) (j : Nat) (m' : xM) : Prop := ∃ k X0 h1 h2, (m'.2 = m.2 ∧ (∀ q, (q < 64 ∨ 80 < q) → m'.1 q = m.1 q) ∧ m'.1 79 = m.1 79 ∧ kk m' 65 = k ∧ RC k X0 (m.1 7 3) (m.1 90) (m.1 92) ∧ xHo X0 j = 1 ∧ two k X0 j h1 h2 ∧ m'.1 64 3 = nI h1 ∧ m'.1 64 4 = nI h2 ∧ g6 m' 65 = X0 ∧ qhd (m'.1 80) 0 X0 j ∧ m'.1 64 5 = nI 21 ∧ m'.1 64 6 = -1000000)

theorem t95x {G : xG} {m : xM} {Q : xQt} (hR : REL m) {j : Nat} (hj : j < ix (m.1 7 4)) (hho : m.1 12 j = 1) (hq : ∀ (k : KK) (X0 : X6) (m2 : xM), m2.2 = m.2 → (∀ q, (q < 64 ∨ 80 < q) → m2.1 q = m.1 q) → m2.1 79 = m.1 79 → RC k X0 (m.1 7 3) (m.1 90) (m.1 92) → xHo X0 j = 1 → ((∃ h1 h2, two k X0 j h1 h2 ∧ m2.1 64 5 = nI (bq (qtk k X0 (nI j) h1 h2) 4096).1 ∧ m2.1 64 6 = (bq (qtk k X0 (nI j) h1 h2) 4096).2) ∨ (nTw k X0 j ∧ m2.1 64 5 = 21 ∧ m2.1 64 6 = -1000000)) → Q none m2) : Tri G 95 [.ref 64, .ref 7, .int (nI j)] m Q := by
  have jn := L_nb hR
  have hj6 : j < 6 := by omega
  refine tri_vc (ls := [.ref 64, .ref 7, .int (nI j), .null]) (by decide +kernel) rfl (Nat.le_of_ble_eq_true rfl) ?_
  refine vc_cut 68 [.ref 64, .ref 7, .int (nI j), .int (nI 0)] (PBs m j) (vc_wp (T := TT [(52, S52T G), (96, S96T G), (97, S97T G), (98, S98T G), (99, S99T G)]) (TTc (fun as m Q h => h) (TTc (fun as m Q h => h) (TTc (fun as m Q h => h) (TTc (fun as m Q h => h) (TTc (fun as m Q h => h) TTn))))) (fun p => p == 68) (rt0 := none) rfl c95 rfl ?_) ?_
  · simp (disch := omega) only [i95, wp_iinc, wpE0, wpE1, wpE2, wpE3, wpE4, wpE5, wpJ, okS, lt4S, popR, litS, Int32.reduceLT, Int32.reduceLE, List.getElem?_cons_zero, List.getElem?_cons_succ, Bool.false_eq_true, ↓reduceIte, Nat.reduceMod, Nat.reduceDiv, Nat.reduceAdd, Nat.reduceSub, Nat.reduceMul, Nat.reduceLeDiff, Nat.reduceEqDiff, Nat.reduceBEq, Int.reduceToNat, Int.reduceAdd, Int32.reduceOfInt, Int64.reduceOfInt, Int32.reduceToNatClampNeg, Int32.reduceOfNat, Bool.or_self, Bool.or_false, Bool.false_or, Bool.true_or, Bool.or_true, true_and, and_true, false_and, and_false, List.set_cons_zero, List.set_cons_succ, List.take_succ_cons, List.take_zero, List.drop_succ_cons, List.drop_zero, List.reverse_cons, List.reverse_nil, List.nil_append, List.cons_append, List.length_cons, List.length_nil, Option.toList_some, Option.toList_none, not_true_eq_false, not_false_eq_true, forall_const, true_implies, false_implies, nrw, TTS, shO, sh7L, and01, bI_0, bI_and, isCl, isRl, cmpS, toLS, toL_le, toL_lt, i2lS, inM, Int64.reduceLE, Int64.reduceLT, xa_1, xa_2, xa_xa, upd_at, updU, Nat.reduceEqDiff, ↓reduceIte, not_true_eq_false, not_false_eq_true, and_true, true_and, and_false, false_and, and_self, or_true, true_or, or_false, false_or, ↓reduceIte, if_true, if_false, eq_self, sh65L, clN, inN, inLS, linS, nI_add, S52T, S96T, S97T, S98T, S99T, not_true_eq_false, not_false_eq_true, and_true, true_and, and_false, false_and, and_self, or_true, true_or, or_false, false_or, ↓reduceIte, if_true, if_false, eq_self]
    refine t52 [.ref 65, .ref 7] m _ ⟨Or.inr (Or.inr (Or.inr (Or.inr (Or.inr ⟨rfl, rfl⟩)))), V_mu hR, fun m1 f1 f2 ek ex et => ?_⟩
    have hRC : RC (kk m1 65) (g6 m1 65) (m1.1 65 3) (m.1 90) (m.1 92) := RC_e hR.club ek ex et (fun _ _ => rfl) (fun _ _ => rfl)
    rw [et] at hRC
    have hho1 : m1.1 70 j = 1 := ((ex.1 j hj6).1).trans hho
    have n12 : ix (m1.1 65 5) ≤ 12 ∧ m1.1 65 5 = nI (ix (m1.1 65 5)) := ix_b (n := 12) (by decide) hRC.2.2.2.1.1.2.2.2.2
    have e64 : m1.1 64 = m.1 64 := f1 64 (by omega)
    have e79 : m1.1 79 = m.1 79 := f1 79 (by omega)
    have e80 : m1.1 80 = m.1 80 := f1 80 (by omega)
    have f1' : ∀ q, (q < 64 ∨ 80 < q) → m1.1 q = m.1 q := fun q hq => f1 q (by omega)
    obtain ⟨n, hn⟩ : ∃ n, n = ix (m1.1 65 5) := ⟨_, rfl⟩
    rw [← hn] at n12
    have en := n12.2
    simp (disch := omega) only [wp_iinc, wpE0, wpE1, wpE2, wpE3, wpE4, wpE5, wpJ, okS, lt4S, popR, litS, Int32.reduceLT, Int32.reduceLE, List.getElem?_cons_zero, List.getElem?_cons_succ, Bool.false_eq_true, ↓reduceIte, Nat.reduceMod, Nat.reduceDiv, Nat.reduceAdd, Nat.reduceSub, Nat.reduceMul, Nat.reduceLeDiff, Nat.reduceEqDiff, Nat.reduceBEq, Int.reduceToNat, Int.reduceAdd, Int32.reduceOfInt, Int64.reduceOfInt, Int32.reduceToNatClampNeg, Int32.reduceOfNat, Bool.or_self, Bool.or_false, Bool.false_or, Bool.true_or, Bool.or_true, true_and, and_true, false_and, and_false, List.set_cons_zero, List.set_cons_succ, List.take_succ_cons, List.take_zero, List.drop_succ_cons, List.drop_zero, List.reverse_cons, List.reverse_nil, List.nil_append, List.cons_append, List.length_cons, List.length_nil, Option.toList_some, Option.toList_none, not_true_eq_false, not_false_eq_true, forall_const, true_implies, false_implies, nrw, TTS, shO, sh7L, and01, bI_0, bI_and, isCl, isRl, cmpS, toLS, toL_le, toL_lt, i2lS, inM, Int64.reduceLE, Int64.reduceLT, xa_1, xa_2, xa_xa, upd_at, updU, Nat.reduceEqDiff, ↓reduceIte, not_true_eq_false, not_false_eq_true, and_true, true_and, and_false, false_and, and_self, or_true, true_or, or_false, false_or, ↓reduceIte, if_true, if_false, eq_self, sh65L, clN, inN, inLS, linS, nI_add, S52T, S96T, S97T, S98T, S99T, en, not_true_eq_false, not_false_eq_true, and_true, true_and, and_false, false_and, and_self, or_true, true_or, or_false, false_or, ↓reduceIte, if_true, if_false, eq_self]
    refine t96x (f := 0) (n := n) hj6 (by omega) en n12.1 (fun q1 hq1 => ?_)
    simp (disch := omega) only [wp_iinc, wpE0, wpE1, wpE2, wpE3, wpE4, wpE5, wpJ, okS, lt4S, popR, litS, Int32.reduceLT, Int32.reduceLE, List.getElem?_cons_zero, List.getElem?_cons_succ, Bool.false_eq_true, ↓reduceIte, Nat.reduceMod, Nat.reduceDiv, Nat.reduceAdd, Nat.reduceSub, Nat.reduceMul, Nat.reduceLeDiff, Nat.reduceEqDiff, Nat.reduceBEq, Int.reduceToNat, Int.reduceAdd, Int32.reduceOfInt, Int64.reduceOfInt, Int32.reduceToNatClampNeg, Int32.reduceOfNat, Bool.or_self, Bool.or_false, Bool.false_or, Bool.true_or, Bool.or_true, true_and, and_true, false_and, and_false, List.set_cons_zero, List.set_cons_succ, List.take_succ_cons, List.take_zero, List.drop_succ_cons, List.drop_zero, List.reverse_cons, List.reverse_nil, List.nil_append, List.cons_append, List.length_cons, List.length_nil, Option.toList_some, Option.toList_none, not_true_eq_false, not_false_eq_true, forall_const, true_implies, false_implies, nrw, TTS, shO, sh7L, and01, bI_0, bI_and, isCl, isRl, cmpS, toLS, toL_le, toL_lt, i2lS, inM, Int64.reduceLE, Int64.reduceLT, xa_1, xa_2, xa_xa, upd_at, updU, Nat.reduceEqDiff, ↓reduceIte, not_true_eq_false, not_false_eq_true, and_true, true_and, and_false, false_and, and_self, or_true, true_or, or_false, false_or, ↓reduceIte, if_true, if_false, eq_self, sh65L, clN, inN, inLS, linS, nI_add, S52T, S96T, S97T, S98T, S99T, en, not_true_eq_false, not_false_eq_true, and_true, true_and, and_false, false_and, and_self, or_true, true_or, or_false, false_or, ↓reduceIte, if_true, if_false, eq_self]
    have q1n : q1 ≤ 12 := by rcases hq1 with z | z <;> omega
    refine t96x (f := q1 + 1) (n := n) hj6 (by omega) en n12.1 (fun q2 hq2 => ?_)
    rcases hq2 with ⟨z1, z2, z3, z4⟩ | ⟨z1, z2⟩
    · have c1 : ¬ nI n ≤ nI q2 := nI_ge z1 (by omega)
      have c1' : nI q2 < nI n := Int32.not_le.mp c1
      rcases hq1 with ⟨y1, _, y3, y4⟩ | ⟨y1, _⟩
      · simp (disch := omega) only [wp_iinc, wpE0, wpE1, wpE2, wpE3, wpE4, wpE5, wpJ, okS, lt4S, popR, litS, Int32.reduceLT, Int32.reduceLE, List.getElem?_cons_zero, List.getElem?_cons_succ, Bool.false_eq_true, ↓reduceIte, Nat.reduceMod, Nat.reduceDiv, Nat.reduceAdd, Nat.reduceSub, Nat.reduceMul, Nat.reduceLeDiff, Nat.reduceEqDiff, Nat.reduceBEq, Int.reduceToNat, Int.reduceAdd, Int32.reduceOfInt, Int64.reduceOfInt, Int32.reduceToNatClampNeg, Int32.reduceOfNat, Bool.or_self, Bool.or_false, Bool.false_or, Bool.true_or, Bool.or_true, true_and, and_true, false_and, and_false, List.set_cons_zero, List.set_cons_succ, List.take_succ_cons, List.take_zero, List.drop_succ_cons, List.drop_zero, List.reverse_cons, List.reverse_nil, List.nil_append, List.cons_append, List.length_cons, List.length_nil, Option.toList_some, Option.toList_none, not_true_eq_false, not_false_eq_true, forall_const, true_implies, false_implies, nrw, TTS, shO, sh7L, and01, bI_0, bI_and, isCl, isRl, cmpS, toLS, toL_le, toL_lt, i2lS, inM, Int64.reduceLE, Int64.reduceLT, xa_1, xa_2, xa_xa, upd_at, updU, Nat.reduceEqDiff, ↓reduceIte, not_true_eq_false, not_false_eq_true, and_true, true_and, and_false, false_and, and_self, or_true, true_or, or_false, false_or, ↓reduceIte, if_true, if_false, eq_self, sh65L, clN, inN, inLS, linS, nI_add, S52T, S96T, S97T, S98T, S99T, en, c1, c1', not_true_eq_false, not_false_eq_true, and_true, true_and, and_false, false_and, and_self, or_true, true_or, or_false, false_or, ↓reduceIte, if_true, if_false, eq_self]
        refine t97x (t := 0) hj6 (by omega) (fun K' k1 k2 => ?_)
        simp (disch := omega) only [wp_iinc, wpE0, wpE1, wpE2, wpE3, wpE4, wpE5, wpJ, okS, lt4S, popR, litS, Int32.reduceLT, Int32.reduceLE, List.getElem?_cons_zero, List.getElem?_cons_succ, Bool.false_eq_true, ↓reduceIte, Nat.reduceMod, Nat.reduceDiv, Nat.reduceAdd, Nat.reduceSub, Nat.reduceMul, Nat.reduceLeDiff, Nat.reduceEqDiff, Nat.reduceBEq, Int.reduceToNat, Int.reduceAdd, Int32.reduceOfInt, Int64.reduceOfInt, Int32.reduceToNatClampNeg, Int32.reduceOfNat, Bool.or_self, Bool.or_false, Bool.false_or, Bool.true_or, Bool.or_true, true_and, and_true, false_and, and_false, List.set_cons_zero, List.set_cons_succ, List.take_succ_cons, List.take_zero, List.drop_succ_cons, List.drop_zero, List.reverse_cons, List.reverse_nil, List.nil_append, List.cons_append, List.length_cons, List.length_nil, Option.toList_some, Option.toList_none, not_true_eq_false, not_false_eq_true, forall_const, true_implies, false_implies, nrw, TTS, shO, sh7L, and01, bI_0, bI_and, isCl, isRl, cmpS, toLS, toL_le, toL_lt, i2lS, inM, Int64.reduceLE, Int64.reduceLT, xa_1, xa_2, xa_xa, upd_at, updU, Nat.reduceEqDiff, ↓reduceIte, not_true_eq_false, not_false_eq_true, and_true, true_and, and_false, false_and, and_self, or_true, true_or, or_false, false_or, ↓reduceIte, if_true, if_false, eq_self, sh65L, clN, inN, inLS, linS, nI_add, S52T, S96T, S97T, S98T, S99T, subS, (show nI 0 = 0 from rfl), not_true_eq_false, not_false_eq_true, and_true, true_and, and_false, false_and, and_self, or_true, true_or, or_false, false_or, ↓reduceIte, if_true, if_false, eq_self]
        exact ⟨kk m1 65, g6 m1 65, q1, q2, f2, fun q hq => (xa_ne (by omega)).trans ((xa_ne (by omega)).trans (f1' q hq)), e79, rfl, hRC, hho1, ⟨by omega, by rw [show ix (kNh (kk m1 65)) = n from hn.symm]; exact z1, y3, z3, fun h hh => y4 h (by omega) hh, fun h h1 h2 => z4 h (by omega) h2⟩, rfl, rfl, rfl, k1, rfl, rfl⟩
      · omega
    · have c1 : nI n ≤ nI q2 := nI_le (by omega) (by omega)
      have c1' : ¬ nI q2 < nI n := Int32.not_lt.mpr c1
      simp (disch := omega) only [wp_iinc, wpE0, wpE1, wpE2, wpE3, wpE4, wpE5, wpJ, okS, lt4S, popR, litS, Int32.reduceLT, Int32.reduceLE, List.getElem?_cons_zero, List.getElem?_cons_succ, Bool.false_eq_true, ↓reduceIte, Nat.reduceMod, Nat.reduceDiv, Nat.reduceAdd, Nat.reduceSub, Nat.reduceMul, Nat.reduceLeDiff, Nat.reduceEqDiff, Nat.reduceBEq, Int.reduceToNat, Int.reduceAdd, Int32.reduceOfInt, Int64.reduceOfInt, Int32.reduceToNatClampNeg, Int32.reduceOfNat, Bool.or_self, Bool.or_false, Bool.false_or, Bool.true_or, Bool.or_true, true_and, and_true, false_and, and_false, List.set_cons_zero, List.set_cons_succ, List.take_succ_cons, List.take_zero, List.drop_succ_cons, List.drop_zero, List.reverse_cons, List.reverse_nil, List.nil_append, List.cons_append, List.length_cons, List.length_nil, Option.toList_some, Option.toList_none, not_true_eq_false, not_false_eq_true, forall_const, true_implies, false_implies, nrw, TTS, shO, sh7L, and01, bI_0, bI_and, isCl, isRl, cmpS, toLS, toL_le, toL_lt, i2lS, inM, Int64.reduceLE, Int64.reduceLT, xa_1, xa_2, xa_xa, upd_at, updU, Nat.reduceEqDiff, ↓reduceIte, not_true_eq_false, not_false_eq_true, and_true, true_and, and_false, false_and, and_self, or_true, true_or, or_false, false_or, ↓reduceIte, if_true, if_false, eq_self, sh65L, clN, inN, inLS, linS, nI_add, S52T, S96T, S97T, S98T, S99T, en, c1, c1', not_true_eq_false, not_false_eq_true, and_true, true_and, and_false, false_and, and_self, or_true, true_or, or_false, false_or, ↓reduceIte, if_true, if_false, eq_self]
      refine hq (kk m1 65) (g6 m1 65) _ f2 (fun q hq => (xa_ne (by omega)).trans (f1' q hq)) e79 hRC hho1 (Or.inr ⟨fun u v h1 h2 h3 h4 => ?_, rfl, rfl⟩)
      rw [show ix (kNh (kk m1 65)) = n from hn.symm] at h2
      rcases hq1 with ⟨y1, _, y3, y4⟩ | ⟨y1, y2⟩
      · have hu : q1 ≤ u := Nat.not_lt.mp fun y => y4 u (by omega) y h3
        exact z2 v (by omega) h2 h4
      · exact y2 u (by omega) (by omega) h3
  · rintro m' ⟨k, X0, h1, h2, b1, b2, b3, b4, b5, b6, b7, b8, b9, b10, b11, b12, b13⟩
    have hvk := b5.2.2.2.1
    have hvx := b5.2.2.2.2
    obtain ⟨w1, w2, w3, w4, w5, w6⟩ := b7
    have nb : ix (kNb k) = ix (m.1 7 4) := by rw [show kNb k = m.1 7 4 from b5.1.1.2.2.2.1.trans (R_nb hR)]
    have nh12 : ix (kNh k) ≤ 12 := (ix_b (n := 12) (by decide) hvk.1.2.2.2.2).1
    have hjk : j < ix (kNb k) := by rw [nb]; exact hj
    have hjj : ix (nI j) = j := ix_nI (by omega)
    have hbb : ix (nI j) < ix (kNb k) := by rw [hjj]; exact hjk
    have nhl : m'.1 65 5 ≤ 12 := by
      rw [show m'.1 65 5 = kNh k from by rw [← b4]; rfl]
      exact bt_le hvk.1.2.2.2.2 rfl
    have e0 : mq m' (g6 m' 65) (m'.1 80) 21 (-1000000) = m' := mq_id b12 b13
    refine vc_forP 4096 (fun i => [.ref 64, .ref 7, .int (nI j), .int (nI i)]) (fun i M => ∃ Y K, M = mq m' Y K (bq (qtk k X0 (nI j) h1 h2) i).1 (bq (qtk k X0 (nI j) h1 h2) i).2 ∧ qfr j X0 Y ∧ qhd K 0 X0 j ∧ (i = 0 ∨ ∃ s, s < i ∧ (∀ u, s < u → u < i → ¬ zr u = u) ∧ (1 < (bq (qtk k X0 (nI j) h1 h2) i).1 → qhd K 1 (qrn k X0 (nI j) h1 h2 s 1) j) ∧ (2 < (bq (qtk k X0 (nI j) h1 h2) i).1 → qhd K 2 (qrn k X0 (nI j) h1 h2 s 2) j))) (fun i M hi hp => ?_) (fun M hp => ?_) ⟨_, _, e0.symm, by rw [b10]; exact qfr_r _ _, b11, Or.inl rfl⟩
    · obtain ⟨Y, K, rfl, hY, hK, hS⟩ := hp
      have c1 : ¬ 4096 ≤ nI i := nI_ge (b := 4096) hi (by omega)
      have c1' : nI i < 4096 := Int32.not_le.mp c1
      refine vc_wp (T := TT [(52, S52T G), (96, S96T G), (97, S97T G), (98, S98T G), (99, S99T G)]) (TTc (fun as m Q h => h) (TTc (fun as m Q h => h) (TTc (fun as m Q h => h) (TTc (fun as m Q h => h) (TTc (fun as m Q h => h) TTn))))) (fun _ => false) (rt0 := none) rfl (ckl_drop 38 c95) rfl ?_
      simp (disch := omega) only [List.drop, i95, wp_iinc, wpE0, wpE1, wpE2, wpE3, wpE4, wpE5, wpJ, okS, lt4S, popR, litS, Int32.reduceLT, Int32.reduceLE, List.getElem?_cons_zero, List.getElem?_cons_succ, Bool.false_eq_true, ↓reduceIte, Nat.reduceMod, Nat.reduceDiv, Nat.reduceAdd, Nat.reduceSub, Nat.reduceMul, Nat.reduceLeDiff, Nat.reduceEqDiff, Nat.reduceBEq, Int.reduceToNat, Int.reduceAdd, Int32.reduceOfInt, Int64.reduceOfInt, Int32.reduceToNatClampNeg, Int32.reduceOfNat, Bool.or_self, Bool.or_false, Bool.false_or, Bool.true_or, Bool.or_true, true_and, and_true, false_and, and_false, List.set_cons_zero, List.set_cons_succ, List.take_succ_cons, List.take_zero, List.drop_succ_cons, List.drop_zero, List.reverse_cons, List.reverse_nil, List.nil_append, List.cons_append, List.length_cons, List.length_nil, Option.toList_some, Option.toList_none, not_true_eq_false, not_false_eq_true, forall_const, true_implies, false_implies, nrw, TTS, shO, sh7L, and01, bI_0, bI_and, isCl, isRl, cmpS, toLS, toL_le, toL_lt, i2lS, inM, Int64.reduceLE, Int64.reduceLT, xa_1, xa_2, xa_xa, upd_at, updU, Nat.reduceEqDiff, ↓reduceIte, not_true_eq_false, not_false_eq_true, and_true, true_and, and_false, false_and, and_self, or_true, true_or, or_false, false_or, ↓reduceIte, if_true, if_false, eq_self, sh65L, clN, inN, inLS, linS, nI_add, S52T, S96T, S97T, S98T, S99T, c1, c1', not_true_eq_false, not_false_eq_true, and_true, true_and, and_false, false_and, and_self, or_true, true_or, or_false, false_or, ↓reduceIte, if_true, if_false, eq_self]
      refine t98x hi ?_
      by_cases z : zr i = i
      · rw [bI_f (fun y => y z)]
        simp (disch := omega) only [wp_iinc, wpE0, wpE1, wpE2, wpE3, wpE4, wpE5, wpJ, okS, lt4S, popR, litS, Int32.reduceLT, Int32.reduceLE, List.getElem?_cons_zero, List.getElem?_cons_succ, Bool.false_eq_true, ↓reduceIte, Nat.reduceMod, Nat.reduceDiv, Nat.reduceAdd, Nat.reduceSub, Nat.reduceMul, Nat.reduceLeDiff, Nat.reduceEqDiff, Nat.reduceBEq, Int.reduceToNat, Int.reduceAdd, Int32.reduceOfInt, Int64.reduceOfInt, Int32.reduceToNatClampNeg, Int32.reduceOfNat, Bool.or_self, Bool.or_false, Bool.false_or, Bool.true_or, Bool.or_true, true_and, and_true, false_and, and_false, List.set_cons_zero, List.set_cons_succ, List.take_succ_cons, List.take_zero, List.drop_succ_cons, List.drop_zero, List.reverse_cons, List.reverse_nil, List.nil_append, List.cons_append, List.length_cons, List.length_nil, Option.toList_some, Option.toList_none, not_true_eq_false, not_false_eq_true, forall_const, true_implies, false_implies, nrw, TTS, shO, sh7L, and01, bI_0, bI_and, isCl, isRl, cmpS, toLS, toL_le, toL_lt, i2lS, inM, Int64.reduceLE, Int64.reduceLT, xa_1, xa_2, xa_xa, upd_at, updU, Nat.reduceEqDiff, ↓reduceIte, not_true_eq_false, not_false_eq_true, and_true, true_and, and_false, false_and, and_self, or_true, true_or, or_false, false_or, ↓reduceIte, if_true, if_false, eq_self, sh65L, clN, inN, inLS, linS, nI_add, S52T, S96T, S97T, S98T, S99T, not_true_eq_false, not_false_eq_true, and_true, true_and, and_false, false_and, and_self, or_true, true_or, or_false, false_or, ↓reduceIte, if_true, if_false, eq_self]
        have hb1 := bq_1 (qtk_1 k X0 (nI j) h1 h2) i
        have hb2 := bq_21 (qtk k X0 (nI j) h1 h2) i
        have g64 := (mqS m' Y K (bq (qtk k X0 (nI j) h1 h2) i).1 (bq (qtk k X0 (nI j) h1 h2) i).2).1
        have key : ∀ (fr : Nat), ((fr = 1 ∧ i % 256 = 0) ∨ (fr = 2 ∧ ¬ i % 256 = 0 ∧ i % 16 = 0) ∨ (fr = 3 ∧ ¬ i % 256 = 0 ∧ ¬ i % 16 = 0)) → ((bq (qtk k X0 (nI j) h1 h2) i).1 ≤ qtk k X0 (nI j) h1 h2 i ∨ fr ≤ qtk k X0 (nI j) h1 h2 i) ∧ (2 ≤ fr → 1 < (bq (qtk k X0 (nI j) h1 h2) i).1 → qhd K 1 (qrn k X0 (nI j) h1 h2 i 1) j) ∧ (3 ≤ fr → 2 < (bq (qtk k X0 (nI j) h1 h2) i).1 → qhd K 2 (qrn k X0 (nI j) h1 h2 i 2) j) := by
          intro fr hfr
          rcases hfr with ⟨rfl, e1⟩ | ⟨rfl, e1, e2⟩ | ⟨rfl, e1, e2⟩
          · exact ⟨Or.inr (qtk_1 _ _ _ _ _ _), fun y => by omega, fun y => by omega⟩
          · rcases hS with y | ⟨s, s1, s2, s3, s4⟩
            · omega
            · have hbs : i - i % 256 ≤ s := Nat.not_lt.mp fun y => s2 _ y (by omega) (zr_b1 z)
              have hss : s / 256 = i / 256 := by omega
              refine ⟨?_, fun _ y => ?_, fun y => by omega⟩
              · by_cases y : 2 ≤ qtk k X0 (nI j) h1 h2 i
                · exact Or.inr y
                · have q1 := qtk_c (k := k) (X := X0) (b := nI j) (h1 := h1) (h2 := h2) (r := i) (u := i - i % 256) (t := 1) (dig_1 (by omega)) (by omega) (by omega)
                  have q2 := bq_le (qtk k X0 (nI j) h1 h2) i (i - i % 256) (by omega)
                  exact Or.inl (Nat.le_trans q2 q1)
              · rw [← qrn_c 1 (dig_1 hss)]; exact s3 y
          · rcases hS with y | ⟨s, s1, s2, s3, s4⟩
            · omega
            · have hbs : i - i % 16 ≤ s := Nat.not_lt.mp fun y => s2 _ y (by omega) (zr_b2 z)
              have hss : s / 16 = i / 16 := by omega
              refine ⟨?_, fun _ y => ?_, fun _ y => ?_⟩
              · by_cases y : 3 ≤ qtk k X0 (nI j) h1 h2 i
                · exact Or.inr y
                · have q1 := qtk_c (k := k) (X := X0) (b := nI j) (h1 := h1) (h2 := h2) (r := i) (u := i - i % 16) (t := 2) (dig_2 (by omega)) (by omega) (by omega)
                  have q2 := bq_le (qtk k X0 (nI j) h1 h2) i (i - i % 16) (by omega)
                  exact Or.inl (Nat.le_trans q2 q1)
              · rw [← qrn_c 1 (dig_1 (show s / 256 = i / 256 by omega))]; exact s3 y
              · rw [← qrn_c 2 (dig_2 hss)]; exact s4 y
        obtain ⟨fr, hfr⟩ : ∃ fr, (fr = 1 ∧ i % 256 = 0) ∨ (fr = 2 ∧ ¬ i % 256 = 0 ∧ i % 16 = 0) ∨ (fr = 3 ∧ ¬ i % 256 = 0 ∧ ¬ i % 16 = 0) := by
          by_cases y1 : i % 256 = 0
          · exact ⟨1, Or.inl ⟨rfl, y1⟩⟩
          · by_cases y2 : i % 16 = 0
            · exact ⟨2, Or.inr (Or.inl ⟨rfl, y1, y2⟩)⟩
            · exact ⟨3, Or.inr (Or.inr ⟨rfl, y1, y2⟩)⟩
        obtain ⟨k1, k2, k3⟩ := key fr hfr
        obtain ⟨g1, g2, g3, g4, g5, g6', g7, g8⟩ := mqS m' Y K (bq (qtk k X0 (nI j) h1 h2) i).1 (bq (qtk k X0 (nI j) h1 h2) i).2
        refine t99x (k := k) (X0 := X0) (h1 := h1) (h2 := h2) (fr := fr) (f := (bq (qtk k X0 (nI j) h1 h2) i).1) (p := (bq (qtk k X0 (nI j) h1 h2) i).2) (g7.trans b4) hvk hvx hjk (by omega) (by omega) (by omega) ?_ ?_ ?_ ?_ ?_ ?_ ⟨hb1, hb2⟩ hi hfr k1 ?_ ?_ ?_ ?_ (fun Y' K' fw pl x1 x2 x3 x4 x5 => ?_)
        · rw [g1]; exact (upd_ne (by omega)).trans ((upd_ne (by omega)).trans b8)
        · rw [g1]; exact (upd_ne (by omega)).trans ((upd_ne (by omega)).trans b9)
        · rw [g3, b3]; exact hR.still
        · rw [g2]; exact nhl
        · rw [g1]; exact (upd_ne (by omega)).trans (upd_eq rfl)
        · rw [g1]; exact upd_eq rfl
        · rw [g4]; exact hK
        · rw [g4]; exact k2
        · rw [g4]; exact k3
        · rw [g8]; exact hY
        · rw [mq_mq]
          have hbq : bq (qtk k X0 (nI j) h1 h2) (i + 1) = (fw, pl) := by
            rcases x1 with ⟨y1, y2, y3⟩ | ⟨y1, y2, y3⟩
            · rw [bq_take y1, y2, y3]
            · rw [bq_skip y1, y2, y3]
          simp (disch := omega) only [wp_iinc, wpE0, wpE1, wpE2, wpE3, wpE4, wpE5, wpJ, okS, lt4S, popR, litS, Int32.reduceLT, Int32.reduceLE, List.getElem?_cons_zero, List.getElem?_cons_succ, Bool.false_eq_true, ↓reduceIte, Nat.reduceMod, Nat.reduceDiv, Nat.reduceAdd, Nat.reduceSub, Nat.reduceMul, Nat.reduceLeDiff, Nat.reduceEqDiff, Nat.reduceBEq, Int.reduceToNat, Int.reduceAdd, Int32.reduceOfInt, Int64.reduceOfInt, Int32.reduceToNatClampNeg, Int32.reduceOfNat, Bool.or_self, Bool.or_false, Bool.false_or, Bool.true_or, Bool.or_true, true_and, and_true, false_and, and_false, List.set_cons_zero, List.set_cons_succ, List.take_succ_cons, List.take_zero, List.drop_succ_cons, List.drop_zero, List.reverse_cons, List.reverse_nil, List.nil_append, List.cons_append, List.length_cons, List.length_nil, Option.toList_some, Option.toList_none, not_true_eq_false, not_false_eq_true, forall_const, true_implies, false_implies, nrw, TTS, shO, sh7L, and01, bI_0, bI_and, isCl, isRl, cmpS, toLS, toL_le, toL_lt, i2lS, inM, Int64.reduceLE, Int64.reduceLT, xa_1, xa_2, xa_xa, upd_at, updU, Nat.reduceEqDiff, ↓reduceIte, not_true_eq_false, not_false_eq_true, and_true, true_and, and_false, false_and, and_self, or_true, true_or, or_false, false_or, ↓reduceIte, if_true, if_false, eq_self, sh65L, clN, inN, inLS, linS, nI_add, S52T, S96T, S97T, S98T, S99T, subS, nI_1, not_true_eq_false, not_false_eq_true, and_true, true_and, and_false, false_and, and_self, or_true, true_or, or_false, false_or, ↓reduceIte, if_true, if_false, eq_self]
          refine ⟨Y', K', by rw [hbq], x2, x3, ?_⟩
          rw [hbq]
          first | exact ⟨i, by omega, fun u u1 u2 => by omega, x4, x5⟩ | exact Or.inr ⟨i, by omega, fun u u1 u2 => by omega, x4, x5⟩
      · rw [bI_t z]
        have hz := zr_le i
        have q1 := bq_le (qtk k X0 (nI j) h1 h2) i (zr i) (by omega)
        have q2 := zr_tk (k := k) (X := X0) hvk hvx hbb (h1 := h1) (h2 := h2) (r := i) (by omega) hi (by rw [hjj, b6]; decide) (by rw [hjj, b6]; decide)
        have hbq : bq (qtk k X0 (nI j) h1 h2) (i + 1) = bq (qtk k X0 (nI j) h1 h2) i := bq_skip (Nat.le_trans q1 q2)
        simp (disch := omega) only [wp_iinc, wpE0, wpE1, wpE2, wpE3, wpE4, wpE5, wpJ, okS, lt4S, popR, litS, Int32.reduceLT, Int32.reduceLE, List.getElem?_cons_zero, List.getElem?_cons_succ, Bool.false_eq_true, ↓reduceIte, Nat.reduceMod, Nat.reduceDiv, Nat.reduceAdd, Nat.reduceSub, Nat.reduceMul, Nat.reduceLeDiff, Nat.reduceEqDiff, Nat.reduceBEq, Int.reduceToNat, Int.reduceAdd, Int32.reduceOfInt, Int64.reduceOfInt, Int32.reduceToNatClampNeg, Int32.reduceOfNat, Bool.or_self, Bool.or_false, Bool.false_or, Bool.true_or, Bool.or_true, true_and, and_true, false_and, and_false, List.set_cons_zero, List.set_cons_succ, List.take_succ_cons, List.take_zero, List.drop_succ_cons, List.drop_zero, List.reverse_cons, List.reverse_nil, List.nil_append, List.cons_append, List.length_cons, List.length_nil, Option.toList_some, Option.toList_none, not_true_eq_false, not_false_eq_true, forall_const, true_implies, false_implies, nrw, TTS, shO, sh7L, and01, bI_0, bI_and, isCl, isRl, cmpS, toLS, toL_le, toL_lt, i2lS, inM, Int64.reduceLE, Int64.reduceLT, xa_1, xa_2, xa_xa, upd_at, updU, Nat.reduceEqDiff, ↓reduceIte, not_true_eq_false, not_false_eq_true, and_true, true_and, and_false, false_and, and_self, or_true, true_or, or_false, false_or, ↓reduceIte, if_true, if_false, eq_self, sh65L, clN, inN, inLS, linS, nI_add, S52T, S96T, S97T, S98T, S99T, subS, nI_1, not_true_eq_false, not_false_eq_true, and_true, true_and, and_false, false_and, and_self, or_true, true_or, or_false, false_or, ↓reduceIte, if_true, if_false, eq_self]
        refine ⟨Y, K, by rw [hbq], hY, hK, ?_⟩
        rw [hbq]
        rcases hS with y | ⟨s, s1, s2, s3, s4⟩
        · exact absurd (by rw [y]; rfl) z
        · have s2' : ∀ u, s < u → u < i + 1 → ¬ zr u = u := fun u u1 u2 => by
            by_cases e : u = i
            · rw [e]; exact z
            · exact s2 u u1 (by omega)
          first | exact ⟨s, by omega, s2', s3, s4⟩ | exact Or.inr ⟨s, by omega, s2', s3, s4⟩
    · obtain ⟨Y, K, rfl, hY, hK, hS⟩ := hp
      have c1 : 4096 ≤ nI 4096 := by decide
      have c1' : ¬ nI 4096 < 4096 := by decide
      refine vc_wp (T := TT [(52, S52T G), (96, S96T G), (97, S97T G), (98, S98T G), (99, S99T G)]) (TTc (fun as m Q h => h) (TTc (fun as m Q h => h) (TTc (fun as m Q h => h) (TTc (fun as m Q h => h) (TTc (fun as m Q h => h) TTn))))) (fun _ => false) (rt0 := none) rfl (ckl_drop 38 c95) rfl ?_
      simp (disch := omega) only [List.drop, i95, wp_iinc, wpE0, wpE1, wpE2, wpE3, wpE4, wpE5, wpJ, okS, lt4S, popR, litS, Int32.reduceLT, Int32.reduceLE, List.getElem?_cons_zero, List.getElem?_cons_succ, Bool.false_eq_true, ↓reduceIte, Nat.reduceMod, Nat.reduceDiv, Nat.reduceAdd, Nat.reduceSub, Nat.reduceMul, Nat.reduceLeDiff, Nat.reduceEqDiff, Nat.reduceBEq, Int.reduceToNat, Int.reduceAdd, Int32.reduceOfInt, Int64.reduceOfInt, Int32.reduceToNatClampNeg, Int32.reduceOfNat, Bool.or_self, Bool.or_false, Bool.false_or, Bool.true_or, Bool.or_true, true_and, and_true, false_and, and_false, List.set_cons_zero, List.set_cons_succ, List.take_succ_cons, List.take_zero, List.drop_succ_cons, List.drop_zero, List.reverse_cons, List.reverse_nil, List.nil_append, List.cons_append, List.length_cons, List.length_nil, Option.toList_some, Option.toList_none, not_true_eq_false, not_false_eq_true, forall_const, true_implies, false_implies, nrw, TTS, shO, sh7L, and01, bI_0, bI_and, isCl, isRl, cmpS, toLS, toL_le, toL_lt, i2lS, inM, Int64.reduceLE, Int64.reduceLT, xa_1, xa_2, xa_xa, upd_at, updU, Nat.reduceEqDiff, ↓reduceIte, not_true_eq_false, not_false_eq_true, and_true, true_and, and_false, false_and, and_self, or_true, true_or, or_false, false_or, ↓reduceIte, if_true, if_false, eq_self, sh65L, clN, inN, inLS, linS, nI_add, S52T, S96T, S97T, S98T, S99T, c1, c1', not_true_eq_false, not_false_eq_true, and_true, true_and, and_false, false_and, and_self, or_true, true_or, or_false, false_or, ↓reduceIte, if_true, if_false, eq_self]
      obtain ⟨g1, g2, g3, g4, g5, g6', g7, g8⟩ := mqS m' Y K (bq (qtk k X0 (nI j) h1 h2) 4096).1 (bq (qtk k X0 (nI j) h1 h2) 4096).2
      refine hq k X0 _ b1 (fun q hq => (mq_fr _ _ _ _ _ hq).trans (b2 q hq)) (g3.trans b3) b5 b6 (Or.inl ⟨h1, h2, ⟨w1, w2, w3, w4, w5, w6⟩, ?_, ?_⟩)
      · rw [g1]; exact (upd_ne (by omega)).trans (upd_eq rfl)
      · rw [g1]; exact upd_eq rfl


