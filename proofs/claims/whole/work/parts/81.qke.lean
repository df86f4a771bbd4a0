theorem bq_n (T : Nat → Nat) : ∀ R, (bq T R).1 = 21 → (bq T R).2 = -1000000
  | 0, _ => rfl
  | R + 1, h => by
    by_cases e : T R < (bq T R).1
    · have := bq_21 T R
      rw [bq_take e] at h
      have h : T R = 21 := h
      omega
    · rw [bq_skip (by omega)] at h ⊢
      exact bq_n T R h
theorem bqw_21 (w T : Nat → Nat) : ∀ R, (bqw w T R).1 ≤ 21
  | 0 => Nat.le_refl _
  | R + 1 => by
    show (if T R < (bqw w T R).1 then (T R, nI (w R)) else bqw w T R).1 ≤ 21
    have := bqw_21 w T R
    by_cases z : T R < (bqw w T R).1
    · rw [if_pos z]
      show T R ≤ 21
      omega
    · rw [if_neg z]; exact this
theorem bqw_take {w T : Nat → Nat} {R : Nat} (h : T R < (bqw w T R).1) : bqw w T (R + 1) = (T R, nI (w R)) := if_pos h
theorem bqw_skip {w T : Nat → Nat} {R : Nat} (h : (bqw w T R).1 ≤ T R) : bqw w T (R + 1) = bqw w T R := if_neg (by omega)
def S96T (G : xG) (as : List Value) (m : xM) (Q : xQt) : Prop := Tri G 96 as m Q
def S97T (G : xG) (as : List Value) (m : xM) (Q : xQt) : Prop := Tri G 97 as m Q
/-- a hand that can, of this boat -/
abbrev abl (k : KK) (X : X6) (j h : Nat) : Prop := kBo k h = nI j ∧ ¬ xGr X h ≤ 0
/-- two hands, the first ones -/
def two (k : KK) (X : X6) (j h1 h2 : Nat) : Prop := h1 < h2 ∧ h2 < ix (kNh k) ∧ abl k X j h1 ∧ abl k X j h2 ∧ (∀ h, h < h1 → ¬ abl k X j h) ∧ ∀ h, h1 < h → h < h2 → ¬ abl k X j h
def nTw (k : KK) (X : X6) (j : Nat) : Prop := ∀ u v, u < v → v < ix (kNh k) → abl k X j u → ¬ abl k X j v
theorem cpy_cp (f g : Nat → Int32) (n : Nat) : va_cpy f (va_cpy f g 0 0 n) 0 0 n = va_cpy f g 0 0 n := cpy_sm (fun _ hi => cpy_00 hi)
theorem kBq_again {m M : xM} {k : KK} (hk : kBq m = k) (hf : ∀ q, q < 64 → M.1 q = m.1 q) (ek : kk M 65 = k) : kBq M = k := by
  subst hk
  have e1 : M.1 66 = va_cpy (m.1 8) (m.1 66) 0 0 6 := congrArg (fun k : KK => k.2.2.2.2.2.1) ek
  have e2 : M.1 67 = va_cpy (m.1 9) (m.1 67) 0 0 6 := congrArg (fun k : KK => k.2.2.2.2.2.2.1) ek
  have e3 : M.1 68 = va_cpy (m.1 10) (m.1 68) 0 0 6 := congrArg (fun k : KK => k.2.2.2.2.2.2.2.1) ek
  have e4 : M.1 69 = va_cpy (m.1 11) (m.1 69) 0 0 6 := congrArg (fun k : KK => k.2.2.2.2.2.2.2.2.1) ek
  have e5 : M.1 74 = va_cpy (m.1 16) (m.1 74) 0 0 12 := congrArg (fun k : KK => k.2.2.2.2.2.2.2.2.2.1) ek
  have e6 : M.1 75 = va_cpy (m.1 17) (m.1 75) 0 0 12 := congrArg (fun k : KK => k.2.2.2.2.2.2.2.2.2.2.1) ek
  have e7 : M.1 76 = va_cpy (m.1 18) (m.1 76) 0 0 12 := congrArg (fun k : KK => k.2.2.2.2.2.2.2.2.2.2.2) ek
  unfold kBq
  rw [e1, e2, e3, e4, e5, e6, e7, hf 7 (by omega), hf 8 (by omega), hf 9 (by omega), hf 10 (by omega), hf 11 (by omega), hf 16 (by omega), hf 17 (by omega), hf 18 (by omega), cpy_cp, cpy_cp, cpy_cp, cpy_cp, cpy_cp, cpy_cp, cpy_cp]
theorem xBq_again {m M : xM} {X0 Y : X6} {j : Nat} (hj : j < 6) (hX : xBq m = X0) (hf : ∀ q, q < 64 → M.1 q = m.1 q) (eY : g6 M 65 = Y) (h : qfr j X0 Y) : ∃ d, xBq M = qsi X0 d := by
  subst hX
  subst eY
  refine ⟨(xBq M).2.2.2.1, Prod.ext ?_ (Prod.ext ?_ (Prod.ext ?_ (Prod.ext rfl (Prod.ext ?_ ?_))))⟩
  · show va_cpy (M.1 12) (M.1 70) 0 0 6 = va_cpy (m.1 12) (m.1 70) 0 0 6
    rw [hf 12 (by omega)]
    exact cpy_s2 (fun i hi => ((h.1 i (by omega)).1).trans (cpy_out (Or.inr (by omega))))
  · show va_cpy (M.1 13) (M.1 71) 0 0 6 = va_cpy (m.1 13) (m.1 71) 0 0 6
    rw [hf 13 (by omega)]
    exact cpy_s2 (fun i hi => ((h.1 i (by omega)).2.1).trans (cpy_out (Or.inr (by omega))))
  · show va_cpy (M.1 14) (M.1 72) 0 0 6 = va_cpy (m.1 14) (m.1 72) 0 0 6
    rw [hf 14 (by omega)]
    exact cpy_s2 (fun i hi => ((h.1 i (by omega)).2.2).trans (cpy_out (Or.inr (by omega))))
  · show va_cpy (M.1 19) (M.1 77) 0 0 12 = va_cpy (m.1 19) (m.1 77) 0 0 12
    rw [hf 19 (by omega)]
    exact cpy_s2 (fun i hi => ((h.2 i hi).1).trans (cpy_out (Or.inr (by omega))))
  · show va_cpy (M.1 20) (M.1 78) 0 0 12 = va_cpy (m.1 20) (m.1 78) 0 0 12
    rw [hf 20 (by omega)]
    exact cpy_s2 (fun i hi => ((h.2 i hi).2).trans (cpy_out (Or.inr (by omega))))
def PBq (m : xM) (k : KK) (X0 : X6) (j h1 h2 i : Nat) (M : xM) : Prop := M.2 = m.2 ∧ (∀ q, (q < 64 ∨ 79 < q) → M.1 q = m.1 q) ∧ M.1 79 = m.1 79 ∧ kBq M = k ∧ (∃ d, xBq M = qsi X0 d) ∧ M.1 64 2 = nI h1 ∧ M.1 64 3 = nI h2 ∧ M.1 64 4 = nI (bqw (fun r => r) (Tg k X0 (nI j) h1 h2) i).1 ∧ M.1 64 5 = (bqw (fun r => r) (Tg k X0 (nI j) h1 h2) i).2
theorem t95x {G : xG} {m : xM} {Q : xQt} (hR : REL m) {j : Nat} (hj : j < ix (m.1 7 4)) (hho : m.1 12 j = 1) (hq : ∀ (k : KK) (X0 : X6) (m2 : xM), m2.2 = m.2 → (∀ q, (q < 64 ∨ 79 < q) → m2.1 q = m.1 q) → m2.1 79 = m.1 79 → RC k X0 (m.1 7 3) (m.1 90) (m.1 92) → xHo X0 j = 1 → ((∃ h1 h2, two k X0 j h1 h2 ∧ m2.1 64 4 = nI (bq (qtk k X0 (nI j) h1 h2) 4096).1 ∧ m2.1 64 5 = (bq (qtk k X0 (nI j) h1 h2) 4096).2) ∨ (nTw k X0 j ∧ m2.1 64 4 = 21 ∧ m2.1 64 5 = -1000000)) → Q none m2) : Tri G 95 [.ref 64, .ref 7, .int (nI j)] m Q := by
  have jn := L_nb hR
  have hj6 : j < 6 := by omega
  have hRC : RC (kBq m) (xBq m) (m.1 7 3) (m.1 90) (m.1 92) := RC_e hR.club (ekB m) (exB m) rfl (fun _ _ => rfl) (fun _ _ => rfl)
  have hho1 : xHo (xBq m) j = 1 := (cpy_00 hj6).trans hho
  obtain ⟨k, hk⟩ : ∃ k, kBq m = k := ⟨_, rfl⟩
  obtain ⟨X0, hX0⟩ : ∃ X, xBq m = X := ⟨_, rfl⟩
  have ha : ∀ h, h < 12 → kBo k h = m.1 16 h ∧ xGr X0 h = m.1 20 h := fun h hh => by
    rw [← hk, ← hX0]; exact ⟨cpy_00 hh, cpy_00 hh⟩
  have eNh : kNh k = m.1 7 5 := by rw [← hk]; rfl
  rw [hk, hX0] at hRC
  rw [hX0] at hho1
  have hvk := hRC.2.2.2.1
  have hvx := hRC.2.2.2.2
  have n12 := ix_b (n := 12) (by decide) hvk.1.2.2.2.2
  rw [eNh] at n12
  obtain ⟨n, hn⟩ : ∃ n, n = ix (m.1 7 5) := ⟨_, rfl⟩
  rw [← hn] at n12
  have en := n12.2
  have hab : ∀ h, h < n → ((m.1 16 h = nI j ∧ ¬ m.1 20 h ≤ 0) ↔ abl k X0 j h) := fun h hh => by
    obtain ⟨a1, a2⟩ := ha h (by omega)
    show _ ↔ (kBo k h = nI j ∧ ¬ xGr X0 h ≤ 0)
    rw [a1, a2]
  refine tri_vc (ls := [.ref 64, .ref 7, .int (nI j), .null]) (by decide +kernel) rfl (Nat.le_of_ble_eq_true rfl) ?_
  refine vc_cut 51 [.ref 64, .ref 7, .int (nI j), .int (nI 0)] (fun M => ∃ h1 h2, two k X0 j h1 h2 ∧ PBq m k X0 j h1 h2 0 M) (vc_wp (T := TT [(52, S52T G), (96, S96T G), (97, S97T G)]) (TTc (fun as m Q h => h) (TTc (fun as m Q h => h) (TTc (fun as m Q h => h) TTn))) (fun p => p == 51) (rt0 := none) rfl c95 rfl ?_) ?_
  · simp (disch := omega) only [i95, wp_iinc, wpE0, wpE1, wpE2, wpE3, wpE4, wpE5, wpJ, okS, lt4S, popR, litS, Int32.reduceLT, Int32.reduceLE, List.getElem?_cons_zero, List.getElem?_cons_succ, Bool.false_eq_true, ↓reduceIte, Nat.reduceMod, Nat.reduceDiv, Nat.reduceAdd, Nat.reduceSub, Nat.reduceMul, Nat.reduceLeDiff, Nat.reduceEqDiff, Nat.reduceBEq, Int.reduceToNat, Int.reduceAdd, Int32.reduceOfInt, Int64.reduceOfInt, Int32.reduceToNatClampNeg, Int32.reduceOfNat, Bool.or_self, Bool.or_false, Bool.false_or, Bool.true_or, Bool.or_true, true_and, and_true, false_and, and_false, List.set_cons_zero, List.set_cons_succ, List.take_succ_cons, List.take_zero, List.drop_succ_cons, List.drop_zero, List.reverse_cons, List.reverse_nil, List.nil_append, List.cons_append, List.length_cons, List.length_nil, Option.toList_some, Option.toList_none, not_true_eq_false, not_false_eq_true, forall_const, true_implies, false_implies, nrw, TTS, shO, sh7L, and01, bI_0, bI_and, isCl, isRl, cmpS, toLS, toL_le, toL_lt, i2lS, inM, Int64.reduceLE, Int64.reduceLT, xa_1, xa_2, xa_xa, upd_at, updU, Nat.reduceEqDiff, ↓reduceIte, not_true_eq_false, not_false_eq_true, and_true, true_and, and_false, false_and, and_self, or_true, true_or, or_false, false_or, ↓reduceIte, if_true, if_false, eq_self, sh65L, clN, inN, inLS, linS, nI_add, S52T, S96T, S97T, not_true_eq_false, not_false_eq_true, and_true, true_and, and_false, false_and, and_self, or_true, true_or, or_false, false_or, ↓reduceIte, if_true, if_false, eq_self]
    refine t96x (f := 0) (n := n) hj6 (by omega) en n12.1 (fun q1 hq1 => ?_)
    simp (disch := omega) only [wp_iinc, wpE0, wpE1, wpE2, wpE3, wpE4, wpE5, wpJ, okS, lt4S, popR, litS, Int32.reduceLT, Int32.reduceLE, List.getElem?_cons_zero, List.getElem?_cons_succ, Bool.false_eq_true, ↓reduceIte, Nat.reduceMod, Nat.reduceDiv, Nat.reduceAdd, Nat.reduceSub, Nat.reduceMul, Nat.reduceLeDiff, Nat.reduceEqDiff, Nat.reduceBEq, Int.reduceToNat, Int.reduceAdd, Int32.reduceOfInt, Int64.reduceOfInt, Int32.reduceToNatClampNeg, Int32.reduceOfNat, Bool.or_self, Bool.or_false, Bool.false_or, Bool.true_or, Bool.or_true, true_and, and_true, false_and, and_false, List.set_cons_zero, List.set_cons_succ, List.take_succ_cons, List.take_zero, List.drop_succ_cons, List.drop_zero, List.reverse_cons, List.reverse_nil, List.nil_append, List.cons_append, List.length_cons, List.length_nil, Option.toList_some, Option.toList_none, not_true_eq_false, not_false_eq_true, forall_const, true_implies, false_implies, nrw, TTS, shO, sh7L, and01, bI_0, bI_and, isCl, isRl, cmpS, toLS, toL_le, toL_lt, i2lS, inM, Int64.reduceLE, Int64.reduceLT, xa_1, xa_2, xa_xa, upd_at, updU, Nat.reduceEqDiff, ↓reduceIte, not_true_eq_false, not_false_eq_true, and_true, true_and, and_false, false_and, and_self, or_true, true_or, or_false, false_or, ↓reduceIte, if_true, if_false, eq_self, sh65L, clN, inN, inLS, linS, nI_add, S52T, S96T, S97T, en, not_true_eq_false, not_false_eq_true, and_true, true_and, and_false, false_and, and_self, or_true, true_or, or_false, false_or, ↓reduceIte, if_true, if_false, eq_self]
    have q1n : q1 ≤ 12 := by rcases hq1 with z | z <;> omega
    refine t96x (f := q1 + 1) (n := n) hj6 (by omega) en n12.1 (fun q2 hq2 => ?_)
    rcases hq2 with ⟨z1, z2, z3, z4⟩ | ⟨z1, z2⟩
    · have c1 : ¬ nI n ≤ nI q2 := nI_ge z1 (by omega)
      have c1' : nI q2 < nI n := Int32.not_le.mp c1
      rcases hq1 with ⟨y1, _, y3, y4⟩ | ⟨y1, _⟩
      · simp (disch := omega) only [wp_iinc, wpE0, wpE1, wpE2, wpE3, wpE4, wpE5, wpJ, okS, lt4S, popR, litS, Int32.reduceLT, Int32.reduceLE, List.getElem?_cons_zero, List.getElem?_cons_succ, Bool.false_eq_true, ↓reduceIte, Nat.reduceMod, Nat.reduceDiv, Nat.reduceAdd, Nat.reduceSub, Nat.reduceMul, Nat.reduceLeDiff, Nat.reduceEqDiff, Nat.reduceBEq, Int.reduceToNat, Int.reduceAdd, Int32.reduceOfInt, Int64.reduceOfInt, Int32.reduceToNatClampNeg, Int32.reduceOfNat, Bool.or_self, Bool.or_false, Bool.false_or, Bool.true_or, Bool.or_true, true_and, and_true, false_and, and_false, List.set_cons_zero, List.set_cons_succ, List.take_succ_cons, List.take_zero, List.drop_succ_cons, List.drop_zero, List.reverse_cons, List.reverse_nil, List.nil_append, List.cons_append, List.length_cons, List.length_nil, Option.toList_some, Option.toList_none, not_true_eq_false, not_false_eq_true, forall_const, true_implies, false_implies, nrw, TTS, shO, sh7L, and01, bI_0, bI_and, isCl, isRl, cmpS, toLS, toL_le, toL_lt, i2lS, inM, Int64.reduceLE, Int64.reduceLT, xa_1, xa_2, xa_xa, upd_at, updU, Nat.reduceEqDiff, ↓reduceIte, not_true_eq_false, not_false_eq_true, and_true, true_and, and_false, false_and, and_self, or_true, true_or, or_false, false_or, ↓reduceIte, if_true, if_false, eq_self, sh65L, clN, inN, inLS, linS, nI_add, S52T, S96T, S97T, en, c1, c1', subS, (show nI 0 = 0 from rfl), not_true_eq_false, not_false_eq_true, and_true, true_and, and_false, false_and, and_self, or_true, true_or, or_false, false_or, ↓reduceIte, if_true, if_false, eq_self]
        refine ⟨q1, q2, ⟨by omega, by rw [eNh, ← hn]; exact z1, (hab q1 y1).mp y3, (hab q2 z1).mp z3, fun h hh y => y4 h (by omega) hh ((hab h (by omega)).mpr y), fun h h1 h2 y => z4 h (by omega) h2 ((hab h (by omega)).mpr y)⟩, rfl, fun q hq => xa_ne (by omega), rfl, hk, ⟨X0.2.2.2.1, hX0⟩, rfl, rfl, rfl, rfl⟩
      · omega
    · have c1 : nI n ≤ nI q2 := nI_le (by omega) (by omega)
      have c1' : ¬ nI q2 < nI n := Int32.not_lt.mpr c1
      simp (disch := omega) only [wp_iinc, wpE0, wpE1, wpE2, wpE3, wpE4, wpE5, wpJ, okS, lt4S, popR, litS, Int32.reduceLT, Int32.reduceLE, List.getElem?_cons_zero, List.getElem?_cons_succ, Bool.false_eq_true, ↓reduceIte, Nat.reduceMod, Nat.reduceDiv, Nat.reduceAdd, Nat.reduceSub, Nat.reduceMul, Nat.reduceLeDiff, Nat.reduceEqDiff, Nat.reduceBEq, Int.reduceToNat, Int.reduceAdd, Int32.reduceOfInt, Int64.reduceOfInt, Int32.reduceToNatClampNeg, Int32.reduceOfNat, Bool.or_self, Bool.or_false, Bool.false_or, Bool.true_or, Bool.or_true, true_and, and_true, false_and, and_false, List.set_cons_zero, List.set_cons_succ, List.take_succ_cons, List.take_zero, List.drop_succ_cons, List.drop_zero, List.reverse_cons, List.reverse_nil, List.nil_append, List.cons_append, List.length_cons, List.length_nil, Option.toList_some, Option.toList_none, not_true_eq_false, not_false_eq_true, forall_const, true_implies, false_implies, nrw, TTS, shO, sh7L, and01, bI_0, bI_and, isCl, isRl, cmpS, toLS, toL_le, toL_lt, i2lS, inM, Int64.reduceLE, Int64.reduceLT, xa_1, xa_2, xa_xa, upd_at, updU, Nat.reduceEqDiff, ↓reduceIte, not_true_eq_false, not_false_eq_true, and_true, true_and, and_false, false_and, and_self, or_true, true_or, or_false, false_or, ↓reduceIte, if_true, if_false, eq_self, sh65L, clN, inN, inLS, linS, nI_add, S52T, S96T, S97T, en, c1, c1', subS, (show nI 0 = 0 from rfl), not_true_eq_false, not_false_eq_true, and_true, true_and, and_false, false_and, and_self, or_true, true_or, or_false, false_or, ↓reduceIte, if_true, if_false, eq_self]
      refine hq k X0 _ rfl (fun q hq => xa_ne (by omega)) rfl hRC hho1 (Or.inr ⟨fun u v h1 h2 h3 h4 => ?_, rfl, rfl⟩)
      rw [eNh, ← hn] at h2
      have h3' := (hab u (by omega)).mpr h3
      have h4' := (hab v (by omega)).mpr h4
      rcases hq1 with ⟨y1, _, y3, y4⟩ | ⟨y1, y2⟩
      · have hu : q1 ≤ u := Nat.not_lt.mp fun y => y4 u (by omega) y h3'
        exact z2 v (by omega) h2 h4'
      · exact y2 u (by omega) (by omega) h3'
  rintro M0 ⟨h1, h2, htw, hM0⟩
  have htw' := htw
  obtain ⟨w1, w2, w3, w4, w5, w6⟩ := htw
  have nb : ix (kNb k) = ix (m.1 7 4) := by rw [show kNb k = m.1 7 4 from hRC.1.1.2.2.2.1.trans (R_nb hR)]
  have hjk : j < ix (kNb k) := by rw [nb]; exact hj
  have hjj : ix (nI j) = j := ix_nI (by omega)
  have hbb : ix (nI j) < ix (kNb k) := by rw [hjj]; exact hjk
  refine vc_forP 16 (fun i => [.ref 64, .ref 7, .int (nI j), .int (nI i)]) (PBq m k X0 j h1 h2) (fun i M hi hp => ?_) (fun M hp => ?_) hM0
  · obtain ⟨b1, b2, b3, b4, ⟨d, b5⟩, b6, b7, b8, b9⟩ := hp
    have c1 : ¬ 16 ≤ nI i := nI_ge (b := 16) hi (by omega)
    have c1' : nI i < 16 := Int32.not_le.mp c1
    refine vc_wp (T := TT [(52, S52T G), (96, S96T G), (97, S97T G)]) (TTc (fun as m Q h => h) (TTc (fun as m Q h => h) (TTc (fun as m Q h => h) TTn))) (fun _ => false) (rt0 := none) rfl (ckl_drop 29 c95) rfl ?_
    simp (disch := omega) only [List.drop, i95, wp_iinc, wpE0, wpE1, wpE2, wpE3, wpE4, wpE5, wpJ, okS, lt4S, popR, litS, Int32.reduceLT, Int32.reduceLE, List.getElem?_cons_zero, List.getElem?_cons_succ, Bool.false_eq_true, ↓reduceIte, Nat.reduceMod, Nat.reduceDiv, Nat.reduceAdd, Nat.reduceSub, Nat.reduceMul, Nat.reduceLeDiff, Nat.reduceEqDiff, Nat.reduceBEq, Int.reduceToNat, Int.reduceAdd, Int32.reduceOfInt, Int64.reduceOfInt, Int32.reduceToNatClampNeg, Int32.reduceOfNat, Bool.or_self, Bool.or_false, Bool.false_or, Bool.true_or, Bool.or_true, true_and, and_true, false_and, and_false, List.set_cons_zero, List.set_cons_succ, List.take_succ_cons, List.take_zero, List.drop_succ_cons, List.drop_zero, List.reverse_cons, List.reverse_nil, List.nil_append, List.cons_append, List.length_cons, List.length_nil, Option.toList_some, Option.toList_none, not_true_eq_false, not_false_eq_true, forall_const, true_implies, false_implies, nrw, TTS, shO, sh7L, and01, bI_0, bI_and, isCl, isRl, cmpS, toLS, toL_le, toL_lt, i2lS, inM, Int64.reduceLE, Int64.reduceLT, xa_1, xa_2, xa_xa, upd_at, updU, Nat.reduceEqDiff, ↓reduceIte, not_true_eq_false, not_false_eq_true, and_true, true_and, and_false, false_and, and_self, or_true, true_or, or_false, false_or, ↓reduceIte, if_true, if_false, eq_self, sh65L, clN, inN, inLS, linS, nI_add, S52T, S96T, S97T, c1, c1', not_true_eq_false, not_false_eq_true, and_true, true_and, and_false, false_and, and_self, or_true, true_or, or_false, false_or, ↓reduceIte, if_true, if_false, eq_self]
    refine t52s (by rw [b2 7 (by omega)]; exact V_mu hR) (fun m1 f1 f2 ek ex => ?_)
    simp (disch := omega) only [wp_iinc, wpE0, wpE1, wpE2, wpE3, wpE4, wpE5, wpJ, okS, lt4S, popR, litS, Int32.reduceLT, Int32.reduceLE, List.getElem?_cons_zero, List.getElem?_cons_succ, Bool.false_eq_true, ↓reduceIte, Nat.reduceMod, Nat.reduceDiv, Nat.reduceAdd, Nat.reduceSub, Nat.reduceMul, Nat.reduceLeDiff, Nat.reduceEqDiff, Nat.reduceBEq, Int.reduceToNat, Int.reduceAdd, Int32.reduceOfInt, Int64.reduceOfInt, Int32.reduceToNatClampNeg, Int32.reduceOfNat, Bool.or_self, Bool.or_false, Bool.false_or, Bool.true_or, Bool.or_true, true_and, and_true, false_and, and_false, List.set_cons_zero, List.set_cons_succ, List.take_succ_cons, List.take_zero, List.drop_succ_cons, List.drop_zero, List.reverse_cons, List.reverse_nil, List.nil_append, List.cons_append, List.length_cons, List.length_nil, Option.toList_some, Option.toList_none, not_true_eq_false, not_false_eq_true, forall_const, true_implies, false_implies, nrw, TTS, shO, sh7L, and01, bI_0, bI_and, isCl, isRl, cmpS, toLS, toL_le, toL_lt, i2lS, inM, Int64.reduceLE, Int64.reduceLT, xa_1, xa_2, xa_xa, upd_at, updU, Nat.reduceEqDiff, ↓reduceIte, not_true_eq_false, not_false_eq_true, and_true, true_and, and_false, false_and, and_self, or_true, true_or, or_false, false_or, ↓reduceIte, if_true, if_false, eq_self, sh65L, clN, inN, inLS, linS, nI_add, S52T, S96T, S97T, not_true_eq_false, not_false_eq_true, and_true, true_and, and_false, false_and, and_self, or_true, true_or, or_false, false_or, ↓reduceIte, if_true, if_false, eq_self]
    have ekk : kk m1 65 = k := ek.trans b4
    have nhl : m1.1 65 5 ≤ 12 := by
      rw [show m1.1 65 5 = kNh k from by rw [← ekk]; rfl]
      exact bt_le hvk.1.2.2.2.2 rfl
    have e64 : m1.1 64 = M.1 64 := f1 64 (by omega)
    refine t97x (k := k) (X0 := X0) (h1 := h1) (h2 := h2) (D := i) (f := (bqw (fun r => r) (Tg k X0 (nI j) h1 h2) i).1) (p := (bqw (fun r => r) (Tg k X0 (nI j) h1 h2) i).2) (d := d) ekk hvk hvx hjk (by omega) (by omega) w2 hho1 ?_ ?_ ?_ nhl ?_ ?_ (bqw_21 _ _ _) hi (ex.trans b5) (fun Y fw pl hc hY => ?_)
    · rw [e64]; exact b6
    · rw [e64]; exact b7
    · rw [f1 79 (by omega), b3]; exact hR.still
    · rw [e64]; exact b8
    · rw [e64]; exact b9
    · have hbq : (bqw (fun r => r) (Tg k X0 (nI j) h1 h2) (i + 1)) = (fw, pl) := by
        rcases hc with ⟨y1, y2, y3⟩ | ⟨y1, y2, y3⟩
        · rw [bqw_take y1, y2, y3]
        · rw [bqw_skip y1, y2, y3]
      simp (disch := omega) only [wp_iinc, wpE0, wpE1, wpE2, wpE3, wpE4, wpE5, wpJ, okS, lt4S, popR, litS, Int32.reduceLT, Int32.reduceLE, List.getElem?_cons_zero, List.getElem?_cons_succ, Bool.false_eq_true, ↓reduceIte, Nat.reduceMod, Nat.reduceDiv, Nat.reduceAdd, Nat.reduceSub, Nat.reduceMul, Nat.reduceLeDiff, Nat.reduceEqDiff, Nat.reduceBEq, Int.reduceToNat, Int.reduceAdd, Int32.reduceOfInt, Int64.reduceOfInt, Int32.reduceToNatClampNeg, Int32.reduceOfNat, Bool.or_self, Bool.or_false, Bool.false_or, Bool.true_or, Bool.or_true, true_and, and_true, false_and, and_false, List.set_cons_zero, List.set_cons_succ, List.take_succ_cons, List.take_zero, List.drop_succ_cons, List.drop_zero, List.reverse_cons, List.reverse_nil, List.nil_append, List.cons_append, List.length_cons, List.length_nil, Option.toList_some, Option.toList_none, not_true_eq_false, not_false_eq_true, forall_const, true_implies, false_implies, nrw, TTS, shO, sh7L, and01, bI_0, bI_and, isCl, isRl, cmpS, toLS, toL_le, toL_lt, i2lS, inM, Int64.reduceLE, Int64.reduceLT, xa_1, xa_2, xa_xa, upd_at, updU, Nat.reduceEqDiff, ↓reduceIte, not_true_eq_false, not_false_eq_true, and_true, true_and, and_false, false_and, and_self, or_true, true_or, or_false, false_or, ↓reduceIte, if_true, if_false, eq_self, sh65L, clN, inN, inLS, linS, nI_add, S52T, S96T, S97T, subS, nI_1, not_true_eq_false, not_false_eq_true, and_true, true_and, and_false, false_and, and_self, or_true, true_or, or_false, false_or, ↓reduceIte, if_true, if_false, eq_self]
      have hff : ∀ q, (q < 64 ∨ 79 < q) → (mq m1 Y fw pl).1 q = m.1 q := fun q hq => (mq_fr _ _ _ _ hq).trans ((f1 q (by omega)).trans (b2 q hq))
      obtain ⟨g1, g2, g3, g4, g5, g6'⟩ := mqS m1 Y fw pl
      refine ⟨f2.trans b1, hff, g3.trans ((f1 79 (by omega)).trans b3), kBq_again hk (fun q hq => hff q (Or.inl hq)) (g5.trans ekk), xBq_again hj6 hX0 (fun q hq => hff q (Or.inl hq)) g6' hY, ?_, ?_, ?_, ?_⟩
      · rw [g1, e64]; exact (upd_ne (by omega)).trans ((upd_ne (by omega)).trans b6)
      · rw [g1, e64]; exact (upd_ne (by omega)).trans ((upd_ne (by omega)).trans b7)
      · rw [g1, hbq]; exact (upd_ne (by omega)).trans (upd_eq rfl)
      · rw [g1, hbq]; exact upd_eq rfl
  · obtain ⟨b1, b2, b3, b4, b5, b6, b7, b8, b9⟩ := hp
    have c1 : 16 ≤ nI 16 := by decide
    have c1' : ¬ nI 16 < 16 := by decide
    have e16 := bq_16 (k := k) (X0 := X0) (b := nI j) (h1 := h1) (h2 := h2) hvk hvx hbb (by omega) (by omega) w2 (by rw [hjj]; exact hho1)
    rw [e16] at b8 b9
    refine vc_wp (T := TT [(52, S52T G), (96, S96T G), (97, S97T G)]) (TTc (fun as m Q h => h) (TTc (fun as m Q h => h) (TTc (fun as m Q h => h) TTn))) (fun _ => false) (rt0 := none) rfl (ckl_drop 29 c95) rfl ?_
    simp (disch := omega) only [List.drop, i95, wp_iinc, wpE0, wpE1, wpE2, wpE3, wpE4, wpE5, wpJ, okS, lt4S, popR, litS, Int32.reduceLT, Int32.reduceLE, List.getElem?_cons_zero, List.getElem?_cons_succ, Bool.false_eq_true, ↓reduceIte, Nat.reduceMod, Nat.reduceDiv, Nat.reduceAdd, Nat.reduceSub, Nat.reduceMul, Nat.reduceLeDiff, Nat.reduceEqDiff, Nat.reduceBEq, Int.reduceToNat, Int.reduceAdd, Int32.reduceOfInt, Int64.reduceOfInt, Int32.reduceToNatClampNeg, Int32.reduceOfNat, Bool.or_self, Bool.or_false, Bool.false_or, Bool.true_or, Bool.or_true, true_and, and_true, false_and, and_false, List.set_cons_zero, List.set_cons_succ, List.take_succ_cons, List.take_zero, List.drop_succ_cons, List.drop_zero, List.reverse_cons, List.reverse_nil, List.nil_append, List.cons_append, List.length_cons, List.length_nil, Option.toList_some, Option.toList_none, not_true_eq_false, not_false_eq_true, forall_const, true_implies, false_implies, nrw, TTS, shO, sh7L, and01, bI_0, bI_and, isCl, isRl, cmpS, toLS, toL_le, toL_lt, i2lS, inM, Int64.reduceLE, Int64.reduceLT, xa_1, xa_2, xa_xa, upd_at, updU, Nat.reduceEqDiff, ↓reduceIte, not_true_eq_false, not_false_eq_true, and_true, true_and, and_false, false_and, and_self, or_true, true_or, or_false, false_or, ↓reduceIte, if_true, if_false, eq_self, sh65L, clN, inN, inLS, linS, nI_add, S52T, S96T, S97T, c1, c1', not_true_eq_false, not_false_eq_true, and_true, true_and, and_false, false_and, and_self, or_true, true_or, or_false, false_or, ↓reduceIte, if_true, if_false, eq_self]
    exact hq k X0 _ b1 b2 b3 hRC hho1 (Or.inl ⟨h1, h2, htw', b8, b9⟩)
