theorem qtk_ge {k : KK} {X : X6} {b : Int32} {h1 h2 r t : Nat} (ht : t ≤ 21) (h : ∀ s, s + 1 < t → ¬ xHo (qrn k X b h1 h2 r (s + 1)) (ix b) = 0) : t ≤ qtk k X b h1 h2 r := by
  by_cases e : qtk k X b h1 h2 r < 21
  · obtain ⟨s, s1, s2, s3⟩ := qtk_lt e
    rcases Nat.lt_or_ge (s + 1) t with y | y
    · exact absurd s3 (h s y)
    · omega
  · omega
def S98T (G : xG) (as : List Value) (m : xM) (Q : xQt) : Prop := Tri G 98 as m Q
/-- what is so when a tick of tryFirst begins -/
def PF (k : KK) (X0 : X6) (j h1 h2 D f : Nat) (p : Int32) (m : xM) (i : Nat) (M : xM) : Prop := ∃ (Y : X6) (fw : Nat) (pl : Int32), M = mq m Y fw pl ∧ (∃ dd, Y = qsi (qrn k X0 (nI j) h1 h2 (256 * D) (i + 1)) dd) ∧ ((fw = f ∧ pl = p ∧ ((gdQ k X0 (nI j) h1 h2 D ∧ xHo (qrn k X0 (nI j) h1 h2 (256 * D) (i + 1)) j = 4 ∧ ∀ s, s < i + 1 → ¬ xHo (qrn k X0 (nI j) h1 h2 (256 * D) (s + 1)) j = 0) ∨ (¬ gdQ k X0 (nI j) h1 h2 D ∧ ¬ xHo (qrn k X0 (nI j) h1 h2 (256 * D) (i + 1)) j = 4))) ∨ (fw = i + 1 ∧ pl = nI D ∧ gdQ k X0 (nI j) h1 h2 D ∧ xHo (qrn k X0 (nI j) h1 h2 (256 * D) (i + 1)) j = 0 ∧ i + 1 < f ∧ ∀ s, s < i → ¬ xHo (qrn k X0 (nI j) h1 h2 (256 * D) (s + 1)) j = 0))
theorem t97x {G : xG} {m : xM} {Q : xQt} {k : KK} {X0 : X6} {j h1 h2 D f : Nat} {p : Int32} {d : Nat → Int32} (hkk : kk m 65 = k) (hvk : VKK k) (hvx : VXX k X0) (hj : j < ix (kNb k)) (hh : h1 ≠ h2) (hh1 : h1 < ix (kNh k)) (hh2 : h2 < ix (kNh k)) (h0 : xHo X0 j = 1) (h3 : m.1 64 2 = nI h1) (h4 : m.1 64 3 = nI h2) (h79 : m.1 79 0 = 1) (n12 : m.1 65 5 ≤ 12) (h5 : m.1 64 4 = nI f) (h6 : m.1 64 5 = p) (hf : f ≤ 21) (hD : D < 16) (hX : g6 m 65 = qsi X0 d) (hq : ∀ Y fw pl, (((Tg k X0 (nI j) h1 h2 D) < f ∧ fw = (Tg k X0 (nI j) h1 h2 D) ∧ pl = nI D) ∨ (f ≤ (Tg k X0 (nI j) h1 h2 D) ∧ fw = f ∧ pl = p)) → qfr j X0 Y → Q none (mq m Y fw pl)) : Tri G 97 [.ref 64, .int (nI j), .int (nI D)] m Q := by
  have nb6 : ix (kNb k) ≤ 6 := (ix_b (n := 6) (by decide) hvk.1.2.2.2.1).1
  have nh12 : ix (kNh k) ≤ 12 := (ix_b (n := 12) (by decide) hvk.1.2.2.2.2).1
  have hj6 : j < 6 := by omega
  have hjj : ix (nI j) = j := ix_nI (by omega)
  have hbb : ix (nI j) < ix (kNb k) := by rw [hjj]; exact hj
  have h0' : xHo X0 (ix (nI j)) = 1 := by rw [hjj]; exact h0
  have hfr : ∀ t dd, qfr j X0 (qsi (qrn k X0 (nI j) h1 h2 (256 * D) t) dd) := fun t dd => by
    have := qfr_qrn (k := k) (X := X0) (b := nI j) (h1 := h1) (h2 := h2) (r := 256 * D) nh12 (by omega) (by omega) t
    rw [hjj] at this
    exact this
  refine tri_vc (ls := [.ref 64, .int (nI j), .int (nI D), .null]) (by decide +kernel) rfl (Nat.le_of_ble_eq_true rfl) ?_
  refine vc_cut 8 [.ref 64, .int (nI j), .int (nI D), .int (nI (0 + 2))] (PF k X0 j h1 h2 D f p m 0) (vc_wp (T := TT [(98, S98T G)]) (TTc (fun as m Q h => h) TTn) (fun p => p == 8) (rt0 := none) rfl c97 rfl ?_) ?_
  · simp (disch := omega) only [i97, wp_iinc, wpE0, wpE1, wpE2, wpE3, wpE4, wpE5, wpJ, okS, lt4S, popR, litS, Int32.reduceLT, Int32.reduceLE, List.getElem?_cons_zero, List.getElem?_cons_succ, Bool.false_eq_true, ↓reduceIte, Nat.reduceMod, Nat.reduceDiv, Nat.reduceAdd, Nat.reduceSub, Nat.reduceMul, Nat.reduceLeDiff, Nat.reduceEqDiff, Nat.reduceBEq, Int.reduceToNat, Int.reduceAdd, Int32.reduceOfInt, Int64.reduceOfInt, Int32.reduceToNatClampNeg, Int32.reduceOfNat, Bool.or_self, Bool.or_false, Bool.false_or, Bool.true_or, Bool.or_true, true_and, and_true, false_and, and_false, List.set_cons_zero, List.set_cons_succ, List.take_succ_cons, List.take_zero, List.drop_succ_cons, List.drop_zero, List.reverse_cons, List.reverse_nil, List.nil_append, List.cons_append, List.length_cons, List.length_nil, Option.toList_some, Option.toList_none, not_true_eq_false, not_false_eq_true, forall_const, true_implies, false_implies, nrw, TTS, shO, sh7L, and01, bI_0, bI_and, isCl, isRl, cmpS, toLS, toL_le, toL_lt, i2lS, inM, Int64.reduceLE, Int64.reduceLT, xa_1, xa_2, xa_xa, upd_at, updU, Nat.reduceEqDiff, ↓reduceIte, not_true_eq_false, not_false_eq_true, and_true, true_and, and_false, false_and, and_self, or_true, true_or, or_false, false_or, ↓reduceIte, if_true, if_false, eq_self, sh65L, clN, inN, inLS, linS, nI_add, S98T, not_true_eq_false, not_false_eq_true, and_true, true_and, and_false, false_and, and_self, or_true, true_or, or_false, false_or, ↓reduceIte, if_true, if_false, eq_self]
    refine t98x (by omega) (by omega) hj6 hD h3 h4 h79 n12 ?_
    obtain ⟨dd, hdd⟩ := qst_si k X0 d (nI j) h1 h2 D
    have e1 : (qrn k X0 (nI j) h1 h2 (256 * D) 1) = qst k X0 (nI j) h1 h2 D := by
      show qst k X0 (nI j) h1 h2 (dig (256 * D) 1) = _
      rw [dg0]
    rw [hkk, hX, hdd, ← mq_s h5 h6]
    simp (disch := omega) only [wp_iinc, wpE0, wpE1, wpE2, wpE3, wpE4, wpE5, wpJ, okS, lt4S, popR, litS, Int32.reduceLT, Int32.reduceLE, List.getElem?_cons_zero, List.getElem?_cons_succ, Bool.false_eq_true, ↓reduceIte, Nat.reduceMod, Nat.reduceDiv, Nat.reduceAdd, Nat.reduceSub, Nat.reduceMul, Nat.reduceLeDiff, Nat.reduceEqDiff, Nat.reduceBEq, Int.reduceToNat, Int.reduceAdd, Int32.reduceOfInt, Int64.reduceOfInt, Int32.reduceToNatClampNeg, Int32.reduceOfNat, Bool.or_self, Bool.or_false, Bool.false_or, Bool.true_or, Bool.or_true, true_and, and_true, false_and, and_false, List.set_cons_zero, List.set_cons_succ, List.take_succ_cons, List.take_zero, List.drop_succ_cons, List.drop_zero, List.reverse_cons, List.reverse_nil, List.nil_append, List.cons_append, List.length_cons, List.length_nil, Option.toList_some, Option.toList_none, not_true_eq_false, not_false_eq_true, forall_const, true_implies, false_implies, nrw, TTS, shO, sh7L, and01, bI_0, bI_and, isCl, isRl, cmpS, toLS, toL_le, toL_lt, i2lS, inM, Int64.reduceLE, Int64.reduceLT, xa_1, xa_2, xa_xa, upd_at, updU, Nat.reduceEqDiff, ↓reduceIte, not_true_eq_false, not_false_eq_true, and_true, true_and, and_false, false_and, and_self, or_true, true_or, or_false, false_or, ↓reduceIte, if_true, if_false, eq_self, sh65L, clN, inN, inLS, linS, nI_add, subS, S98T, not_true_eq_false, not_false_eq_true, and_true, true_and, and_false, false_and, and_self, or_true, true_or, or_false, false_or, ↓reduceIte, if_true, if_false, eq_self]
    refine ⟨rfl, _, f, p, rfl, ⟨dd, by rw [e1]⟩, Or.inl ⟨rfl, rfl, ?_⟩⟩
    by_cases g : gdQ k X0 (nI j) h1 h2 D
    · have y : xHo (qrn k X0 (nI j) h1 h2 (256 * D) 1) j = 4 := by
        rw [e1, up_t hvk hvx hbb hD h0' g]
        have := (upd_eq (f := (tl2 X0 (ix (nI j)) h1 h2 D).1) (i := ix (nI j)) (j := j) (x := 4) hjj.symm)
        exact this
      refine Or.inl ⟨g, y, fun s hs => ?_⟩
      have : s = 0 := by omega
      subst this
      rw [y]; decide
    · refine Or.inr ⟨g, ?_⟩
      have := (ng_t hvk hvx hbb hD h0' g).2
      rw [hjj] at this
      rw [e1]; exact this
  intro M0 hM0
  refine vc_forP 19 (fun i => [.ref 64, .int (nI j), .int (nI D), .int (nI (i + 2))]) (PF k X0 j h1 h2 D f p m) (fun i M hi hp => ?_) (fun M hp => ?_) hM0
  · obtain ⟨Y, fw, pl, rfl, ⟨dd, rfl⟩, hc⟩ := hp
    have e64 : upd (upd (m.1 64) 4 (nI fw)) 5 pl 4 = nI fw := (upd_ne (by omega)).trans (upd_eq rfl)
    have hfr2 : qfr j X0 (qsi (qrn k X0 (nI j) h1 h2 (256 * D) (i + 1)) dd) := hfr _ dd
    rcases hc with ⟨rfl, rfl, r3⟩ | ⟨rfl, rfl, r3, r4, r5, r6⟩
    · by_cases c : i + 2 < fw
      · have c1 : ¬ nI fw ≤ nI (i + 2) := nI_ge c (by omega)
        have c1' : nI (i + 2) < nI fw := Int32.not_le.mp c1
        rcases r3 with ⟨g1, g2, g3⟩ | ⟨g1, g2⟩
        · have y4 : (qsi (qrn k X0 (nI j) h1 h2 (256 * D) (i + 1)) dd).1 j = 4 := g2
          refine vc_wp (T := TT [(98, S98T G)]) (TTc (fun as m Q h => h) TTn) (fun _ => false) (rt0 := none) rfl (ckl_drop 6 c97) rfl ?_
          simp (disch := omega) only [List.drop, i97, wp_iinc, wpE0, wpE1, wpE2, wpE3, wpE4, wpE5, wpJ, okS, lt4S, popR, litS, Int32.reduceLT, Int32.reduceLE, List.getElem?_cons_zero, List.getElem?_cons_succ, Bool.false_eq_true, ↓reduceIte, Nat.reduceMod, Nat.reduceDiv, Nat.reduceAdd, Nat.reduceSub, Nat.reduceMul, Nat.reduceLeDiff, Nat.reduceEqDiff, Nat.reduceBEq, Int.reduceToNat, Int.reduceAdd, Int32.reduceOfInt, Int64.reduceOfInt, Int32.reduceToNatClampNeg, Int32.reduceOfNat, Bool.or_self, Bool.or_false, Bool.false_or, Bool.true_or, Bool.or_true, true_and, and_true, false_and, and_false, List.set_cons_zero, List.set_cons_succ, List.take_succ_cons, List.take_zero, List.drop_succ_cons, List.drop_zero, List.reverse_cons, List.reverse_nil, List.nil_append, List.cons_append, List.length_cons, List.length_nil, Option.toList_some, Option.toList_none, not_true_eq_false, not_false_eq_true, forall_const, true_implies, false_implies, nrw, TTS, shO, sh7L, and01, bI_0, bI_and, isCl, isRl, cmpS, toLS, toL_le, toL_lt, i2lS, inM, Int64.reduceLE, Int64.reduceLT, xa_1, xa_2, xa_xa, upd_at, updU, Nat.reduceEqDiff, ↓reduceIte, not_true_eq_false, not_false_eq_true, and_true, true_and, and_false, false_and, and_self, or_true, true_or, or_false, false_or, ↓reduceIte, if_true, if_false, eq_self, sh65L, clN, inN, inLS, linS, nI_add, mqS, S98T, c1, c1', e64, y4, not_true_eq_false, not_false_eq_true, and_true, true_and, and_false, false_and, and_self, or_true, true_or, or_false, false_or, ↓reduceIte, if_true, if_false, eq_self]
          refine t98x (D := 0) (h1 := h1) (h2 := h2) (by omega) (by omega) hj6 (by omega) ?_ ?_ ?_ ?_ ?_
          · exact (congrFun (mqS m _ _ _).1 2).trans ((upd_ne (by omega)).trans ((upd_ne (by omega)).trans h3))
          · exact (congrFun (mqS m _ _ _).1 3).trans ((upd_ne (by omega)).trans ((upd_ne (by omega)).trans h4))
          · rw [(mqS m _ _ _).2.2.1]; exact h79
          · rw [(mqS m _ _ _).2.1]; exact n12
          obtain ⟨de, hde⟩ := qst_si k (qrn k X0 (nI j) h1 h2 (256 * D) (i + 1)) dd (nI j) h1 h2 0
          have e2 : (qrn k X0 (nI j) h1 h2 (256 * D) (i + 1 + 1)) = qst k (qrn k X0 (nI j) h1 h2 (256 * D) (i + 1)) (nI j) h1 h2 0 := by
            show qst k (qrn k X0 (nI j) h1 h2 (256 * D) (i + 1)) (nI j) h1 h2 (dig (256 * D) (i + 1 + 1)) = _
            rw [dg1 D (t := i + 1) (by omega)]
          rw [← e2] at hde
          rw [(mqS m _ _ _).2.2.2.2.1, (mqS m _ _ _).2.2.2.2.2, hkk, hde, mq_s6]
          by_cases y : xHo (qrn k X0 (nI j) h1 h2 (256 * D) (i + 1 + 1)) j = 0
          · have y' : (qsi (qrn k X0 (nI j) h1 h2 (256 * D) (i + 1 + 1)) de).1 j = 0 := y
            simp (disch := omega) only [wp_iinc, wpE0, wpE1, wpE2, wpE3, wpE4, wpE5, wpJ, okS, lt4S, popR, litS, Int32.reduceLT, Int32.reduceLE, List.getElem?_cons_zero, List.getElem?_cons_succ, Bool.false_eq_true, ↓reduceIte, Nat.reduceMod, Nat.reduceDiv, Nat.reduceAdd, Nat.reduceSub, Nat.reduceMul, Nat.reduceLeDiff, Nat.reduceEqDiff, Nat.reduceBEq, Int.reduceToNat, Int.reduceAdd, Int32.reduceOfInt, Int64.reduceOfInt, Int32.reduceToNatClampNeg, Int32.reduceOfNat, Bool.or_self, Bool.or_false, Bool.false_or, Bool.true_or, Bool.or_true, true_and, and_true, false_and, and_false, List.set_cons_zero, List.set_cons_succ, List.take_succ_cons, List.take_zero, List.drop_succ_cons, List.drop_zero, List.reverse_cons, List.reverse_nil, List.nil_append, List.cons_append, List.length_cons, List.length_nil, Option.toList_some, Option.toList_none, not_true_eq_false, not_false_eq_true, forall_const, true_implies, false_implies, nrw, TTS, shO, sh7L, and01, bI_0, bI_and, isCl, isRl, cmpS, toLS, toL_le, toL_lt, i2lS, inM, Int64.reduceLE, Int64.reduceLT, xa_1, xa_2, xa_xa, upd_at, updU, Nat.reduceEqDiff, ↓reduceIte, not_true_eq_false, not_false_eq_true, and_true, true_and, and_false, false_and, and_self, or_true, true_or, or_false, false_or, ↓reduceIte, if_true, if_false, eq_self, sh65L, clN, inN, inLS, linS, nI_add, mqS, S98T, y', subS, nI_1, e64, not_true_eq_false, not_false_eq_true, and_true, true_and, and_false, false_and, and_self, or_true, true_or, or_false, false_or, ↓reduceIte, if_true, if_false, eq_self]
            exact ⟨_, i + 2, nI D, (mq_64 m _ _ _ _ _), ⟨de, rfl⟩, Or.inr ⟨rfl, rfl, g1, y, c, g3⟩⟩
          · have y' : ¬ (qsi (qrn k X0 (nI j) h1 h2 (256 * D) (i + 1 + 1)) de).1 j = 0 := y
            simp (disch := omega) only [wp_iinc, wpE0, wpE1, wpE2, wpE3, wpE4, wpE5, wpJ, okS, lt4S, popR, litS, Int32.reduceLT, Int32.reduceLE, List.getElem?_cons_zero, List.getElem?_cons_succ, Bool.false_eq_true, ↓reduceIte, Nat.reduceMod, Nat.reduceDiv, Nat.reduceAdd, Nat.reduceSub, Nat.reduceMul, Nat.reduceLeDiff, Nat.reduceEqDiff, Nat.reduceBEq, Int.reduceToNat, Int.reduceAdd, Int32.reduceOfInt, Int64.reduceOfInt, Int32.reduceToNatClampNeg, Int32.reduceOfNat, Bool.or_self, Bool.or_false, Bool.false_or, Bool.true_or, Bool.or_true, true_and, and_true, false_and, and_false, List.set_cons_zero, List.set_cons_succ, List.take_succ_cons, List.take_zero, List.drop_succ_cons, List.drop_zero, List.reverse_cons, List.reverse_nil, List.nil_append, List.cons_append, List.length_cons, List.length_nil, Option.toList_some, Option.toList_none, not_true_eq_false, not_false_eq_true, forall_const, true_implies, false_implies, nrw, TTS, shO, sh7L, and01, bI_0, bI_and, isCl, isRl, cmpS, toLS, toL_le, toL_lt, i2lS, inM, Int64.reduceLE, Int64.reduceLT, xa_1, xa_2, xa_xa, upd_at, updU, Nat.reduceEqDiff, ↓reduceIte, not_true_eq_false, not_false_eq_true, and_true, true_and, and_false, false_and, and_self, or_true, true_or, or_false, false_or, ↓reduceIte, if_true, if_false, eq_self, sh65L, clN, inN, inLS, linS, nI_add, mqS, S98T, y', subS, nI_1, e64, not_true_eq_false, not_false_eq_true, and_true, true_and, and_false, false_and, and_self, or_true, true_or, or_false, false_or, ↓reduceIte, if_true, if_false, eq_self]
            refine ⟨_, fw, pl, rfl, ⟨de, rfl⟩, Or.inl ⟨rfl, rfl, Or.inl ⟨g1, ?_, fun s hs => ?_⟩⟩⟩
            · have := st_04 (k := k) (X := (qrn k X0 (nI j) h1 h2 (256 * D) (i + 1))) (b := nI j) (h1 := h1) (h2 := h2) (D := 0) (by rw [hjj]; exact g2)
              rw [hjj, ← e2] at this
              exact this.resolve_left y
            · by_cases e : s = i + 1
              · rw [e]; exact y
              · exact g3 s (by omega)
        · have y4 : ¬ (qsi (qrn k X0 (nI j) h1 h2 (256 * D) (i + 1)) dd).1 j = 4 := g2
          refine vc_wp (T := TT [(98, S98T G)]) (TTc (fun as m Q h => h) TTn) (fun _ => false) (rt0 := none) rfl (ckl_drop 6 c97) rfl ?_
          simp (disch := omega) only [List.drop, i97, wp_iinc, wpE0, wpE1, wpE2, wpE3, wpE4, wpE5, wpJ, okS, lt4S, popR, litS, Int32.reduceLT, Int32.reduceLE, List.getElem?_cons_zero, List.getElem?_cons_succ, Bool.false_eq_true, ↓reduceIte, Nat.reduceMod, Nat.reduceDiv, Nat.reduceAdd, Nat.reduceSub, Nat.reduceMul, Nat.reduceLeDiff, Nat.reduceEqDiff, Nat.reduceBEq, Int.reduceToNat, Int.reduceAdd, Int32.reduceOfInt, Int64.reduceOfInt, Int32.reduceToNatClampNeg, Int32.reduceOfNat, Bool.or_self, Bool.or_false, Bool.false_or, Bool.true_or, Bool.or_true, true_and, and_true, false_and, and_false, List.set_cons_zero, List.set_cons_succ, List.take_succ_cons, List.take_zero, List.drop_succ_cons, List.drop_zero, List.reverse_cons, List.reverse_nil, List.nil_append, List.cons_append, List.length_cons, List.length_nil, Option.toList_some, Option.toList_none, not_true_eq_false, not_false_eq_true, forall_const, true_implies, false_implies, nrw, TTS, shO, sh7L, and01, bI_0, bI_and, isCl, isRl, cmpS, toLS, toL_le, toL_lt, i2lS, inM, Int64.reduceLE, Int64.reduceLT, xa_1, xa_2, xa_xa, upd_at, updU, Nat.reduceEqDiff, ↓reduceIte, not_true_eq_false, not_false_eq_true, and_true, true_and, and_false, false_and, and_self, or_true, true_or, or_false, false_or, ↓reduceIte, if_true, if_false, eq_self, sh65L, clN, inN, inLS, linS, nI_add, mqS, S98T, c1, c1', e64, y4, not_true_eq_false, not_false_eq_true, and_true, true_and, and_false, false_and, and_self, or_true, true_or, or_false, false_or, ↓reduceIte, if_true, if_false, eq_self]
          refine hq _ _ _ (Or.inr ⟨?_, rfl, rfl⟩) hfr2
          unfold Tg
          rw [if_neg g1]; exact hf
      · have c1 : nI fw ≤ nI (i + 2) := nI_le (by omega) (by omega)
        have c1' : ¬ nI (i + 2) < nI fw := Int32.not_lt.mpr c1
        refine vc_wp (T := TT [(98, S98T G)]) (TTc (fun as m Q h => h) TTn) (fun _ => false) (rt0 := none) rfl (ckl_drop 6 c97) rfl ?_
        simp (disch := omega) only [List.drop, i97, wp_iinc, wpE0, wpE1, wpE2, wpE3, wpE4, wpE5, wpJ, okS, lt4S, popR, litS, Int32.reduceLT, Int32.reduceLE, List.getElem?_cons_zero, List.getElem?_cons_succ, Bool.false_eq_true, ↓reduceIte, Nat.reduceMod, Nat.reduceDiv, Nat.reduceAdd, Nat.reduceSub, Nat.reduceMul, Nat.reduceLeDiff, Nat.reduceEqDiff, Nat.reduceBEq, Int.reduceToNat, Int.reduceAdd, Int32.reduceOfInt, Int64.reduceOfInt, Int32.reduceToNatClampNeg, Int32.reduceOfNat, Bool.or_self, Bool.or_false, Bool.false_or, Bool.true_or, Bool.or_true, true_and, and_true, false_and, and_false, List.set_cons_zero, List.set_cons_succ, List.take_succ_cons, List.take_zero, List.drop_succ_cons, List.drop_zero, List.reverse_cons, List.reverse_nil, List.nil_append, List.cons_append, List.length_cons, List.length_nil, Option.toList_some, Option.toList_none, not_true_eq_false, not_false_eq_true, forall_const, true_implies, false_implies, nrw, TTS, shO, sh7L, and01, bI_0, bI_and, isCl, isRl, cmpS, toLS, toL_le, toL_lt, i2lS, inM, Int64.reduceLE, Int64.reduceLT, xa_1, xa_2, xa_xa, upd_at, updU, Nat.reduceEqDiff, ↓reduceIte, not_true_eq_false, not_false_eq_true, and_true, true_and, and_false, false_and, and_self, or_true, true_or, or_false, false_or, ↓reduceIte, if_true, if_false, eq_self, sh65L, clN, inN, inLS, linS, nI_add, mqS, S98T, c1, c1', e64, not_true_eq_false, not_false_eq_true, and_true, true_and, and_false, false_and, and_self, or_true, true_or, or_false, false_or, ↓reduceIte, if_true, if_false, eq_self]
        refine hq _ _ _ (Or.inr ⟨?_, rfl, rfl⟩) hfr2
        unfold Tg
        rcases r3 with ⟨g1, g2, g3⟩ | ⟨g1, g2⟩
        · rw [if_pos g1]
          exact qtk_ge (by omega) (fun s hs => by rw [hjj]; exact g3 s (by omega))
        · rw [if_neg g1]; exact hf

    · have c1 : nI (i + 1) ≤ nI (i + 2) := nI_le (by omega) (by omega)
      have c1' : ¬ nI (i + 2) < nI (i + 1) := Int32.not_lt.mpr c1
      have eT : (Tg k X0 (nI j) h1 h2 D) = i + 1 := by
        unfold Tg
        rw [if_pos r3]
        exact qtk_eq (by omega) (by rw [hjj]; exact r4) (fun s hs => by rw [hjj]; exact r6 s hs)
      refine vc_wp (T := TT [(98, S98T G)]) (TTc (fun as m Q h => h) TTn) (fun _ => false) (rt0 := none) rfl (ckl_drop 6 c97) rfl ?_
      simp (disch := omega) only [List.drop, i97, wp_iinc, wpE0, wpE1, wpE2, wpE3, wpE4, wpE5, wpJ, okS, lt4S, popR, litS, Int32.reduceLT, Int32.reduceLE, List.getElem?_cons_zero, List.getElem?_cons_succ, Bool.false_eq_true, ↓reduceIte, Nat.reduceMod, Nat.reduceDiv, Nat.reduceAdd, Nat.reduceSub, Nat.reduceMul, Nat.reduceLeDiff, Nat.reduceEqDiff, Nat.reduceBEq, Int.reduceToNat, Int.reduceAdd, Int32.reduceOfInt, Int64.reduceOfInt, Int32.reduceToNatClampNeg, Int32.reduceOfNat, Bool.or_self, Bool.or_false, Bool.false_or, Bool.true_or, Bool.or_true, true_and, and_true, false_and, and_false, List.set_cons_zero, List.set_cons_succ, List.take_succ_cons, List.take_zero, List.drop_succ_cons, List.drop_zero, List.reverse_cons, List.reverse_nil, List.nil_append, List.cons_append, List.length_cons, List.length_nil, Option.toList_some, Option.toList_none, not_true_eq_false, not_false_eq_true, forall_const, true_implies, false_implies, nrw, TTS, shO, sh7L, and01, bI_0, bI_and, isCl, isRl, cmpS, toLS, toL_le, toL_lt, i2lS, inM, Int64.reduceLE, Int64.reduceLT, xa_1, xa_2, xa_xa, upd_at, updU, Nat.reduceEqDiff, ↓reduceIte, not_true_eq_false, not_false_eq_true, and_true, true_and, and_false, false_and, and_self, or_true, true_or, or_false, false_or, ↓reduceIte, if_true, if_false, eq_self, sh65L, clN, inN, inLS, linS, nI_add, mqS, S98T, c1, c1', e64, not_true_eq_false, not_false_eq_true, and_true, true_and, and_false, false_and, and_self, or_true, true_or, or_false, false_or, ↓reduceIte, if_true, if_false, eq_self]
      exact hq _ _ _ (Or.inl ⟨by omega, eT.symm, rfl⟩) hfr2

  · obtain ⟨Y, fw, pl, rfl, ⟨dd, rfl⟩, hc⟩ := hp
    have e64 : upd (upd (m.1 64) 4 (nI fw)) 5 pl 4 = nI fw := (upd_ne (by omega)).trans (upd_eq rfl)
    have hfr2 : qfr j X0 (qsi (qrn k X0 (nI j) h1 h2 (256 * D) (19 + 1)) dd) := hfr _ dd
    rcases hc with ⟨rfl, rfl, r3⟩ | ⟨rfl, rfl, r3, r4, r5, r6⟩
    · have c1 : nI fw ≤ nI (19 + 2) := nI_le (by omega) (by omega)
      have c1' : ¬ nI (19 + 2) < nI fw := Int32.not_lt.mpr c1
      refine vc_wp (T := TT [(98, S98T G)]) (TTc (fun as m Q h => h) TTn) (fun _ => false) (rt0 := none) rfl (ckl_drop 6 c97) rfl ?_
      simp (disch := omega) only [List.drop, i97, wp_iinc, wpE0, wpE1, wpE2, wpE3, wpE4, wpE5, wpJ, okS, lt4S, popR, litS, Int32.reduceLT, Int32.reduceLE, List.getElem?_cons_zero, List.getElem?_cons_succ, Bool.false_eq_true, ↓reduceIte, Nat.reduceMod, Nat.reduceDiv, Nat.reduceAdd, Nat.reduceSub, Nat.reduceMul, Nat.reduceLeDiff, Nat.reduceEqDiff, Nat.reduceBEq, Int.reduceToNat, Int.reduceAdd, Int32.reduceOfInt, Int64.reduceOfInt, Int32.reduceToNatClampNeg, Int32.reduceOfNat, Bool.or_self, Bool.or_false, Bool.false_or, Bool.true_or, Bool.or_true, true_and, and_true, false_and, and_false, List.set_cons_zero, List.set_cons_succ, List.take_succ_cons, List.take_zero, List.drop_succ_cons, List.drop_zero, List.reverse_cons, List.reverse_nil, List.nil_append, List.cons_append, List.length_cons, List.length_nil, Option.toList_some, Option.toList_none, not_true_eq_false, not_false_eq_true, forall_const, true_implies, false_implies, nrw, TTS, shO, sh7L, and01, bI_0, bI_and, isCl, isRl, cmpS, toLS, toL_le, toL_lt, i2lS, inM, Int64.reduceLE, Int64.reduceLT, xa_1, xa_2, xa_xa, upd_at, updU, Nat.reduceEqDiff, ↓reduceIte, not_true_eq_false, not_false_eq_true, and_true, true_and, and_false, false_and, and_self, or_true, true_or, or_false, false_or, ↓reduceIte, if_true, if_false, eq_self, sh65L, clN, inN, inLS, linS, nI_add, mqS, S98T, c1, c1', e64, not_true_eq_false, not_false_eq_true, and_true, true_and, and_false, false_and, and_self, or_true, true_or, or_false, false_or, ↓reduceIte, if_true, if_false, eq_self]
      refine hq _ _ _ (Or.inr ⟨?_, rfl, rfl⟩) hfr2
      unfold Tg
      rcases r3 with ⟨g1, g2, g3⟩ | ⟨g1, g2⟩
      · rw [if_pos g1]
        exact qtk_ge (by omega) (fun s hs => by rw [hjj]; exact g3 s (by omega))
      · rw [if_neg g1]; exact hf

    · have c1 : nI (19 + 1) ≤ nI (19 + 2) := nI_le (by omega) (by omega)
      have c1' : ¬ nI (19 + 2) < nI (19 + 1) := Int32.not_lt.mpr c1
      have eT : (Tg k X0 (nI j) h1 h2 D) = 19 + 1 := by
        unfold Tg
        rw [if_pos r3]
        exact qtk_eq (by omega) (by rw [hjj]; exact r4) (fun s hs => by rw [hjj]; exact r6 s hs)
      refine vc_wp (T := TT [(98, S98T G)]) (TTc (fun as m Q h => h) TTn) (fun _ => false) (rt0 := none) rfl (ckl_drop 6 c97) rfl ?_
      simp (disch := omega) only [List.drop, i97, wp_iinc, wpE0, wpE1, wpE2, wpE3, wpE4, wpE5, wpJ, okS, lt4S, popR, litS, Int32.reduceLT, Int32.reduceLE, List.getElem?_cons_zero, List.getElem?_cons_succ, Bool.false_eq_true, ↓reduceIte, Nat.reduceMod, Nat.reduceDiv, Nat.reduceAdd, Nat.reduceSub, Nat.reduceMul, Nat.reduceLeDiff, Nat.reduceEqDiff, Nat.reduceBEq, Int.reduceToNat, Int.reduceAdd, Int32.reduceOfInt, Int64.reduceOfInt, Int32.reduceToNatClampNeg, Int32.reduceOfNat, Bool.or_self, Bool.or_false, Bool.false_or, Bool.true_or, Bool.or_true, true_and, and_true, false_and, and_false, List.set_cons_zero, List.set_cons_succ, List.take_succ_cons, List.take_zero, List.drop_succ_cons, List.drop_zero, List.reverse_cons, List.reverse_nil, List.nil_append, List.cons_append, List.length_cons, List.length_nil, Option.toList_some, Option.toList_none, not_true_eq_false, not_false_eq_true, forall_const, true_implies, false_implies, nrw, TTS, shO, sh7L, and01, bI_0, bI_and, isCl, isRl, cmpS, toLS, toL_le, toL_lt, i2lS, inM, Int64.reduceLE, Int64.reduceLT, xa_1, xa_2, xa_xa, upd_at, updU, Nat.reduceEqDiff, ↓reduceIte, not_true_eq_false, not_false_eq_true, and_true, true_and, and_false, false_and, and_self, or_true, true_or, or_false, false_or, ↓reduceIte, if_true, if_false, eq_self, sh65L, clN, inN, inLS, linS, nI_add, mqS, S98T, c1, c1', e64, not_true_eq_false, not_false_eq_true, and_true, true_and, and_false, false_and, and_self, or_true, true_or, or_false, false_or, ↓reduceIte, if_true, if_false, eq_self]
      exact hq _ _ _ (Or.inl ⟨by omega, eT.symm, rfl⟩) hfr2

