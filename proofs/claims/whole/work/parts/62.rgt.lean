theorem fi_out {p : Nat → Prop} [DecidablePred p] {a N : Nat} (ha : a ≤ N) (h1 : ∀ t, t < a → ¬ p t) (h2 : ∀ t, a ≤ t → t < N → ¬ p t) : fi p N = N := fi_none (fun k hk => if z : k < a then h1 k z else h2 k (by omega) hk)
theorem ofIm : Int32.ofInt (-1) = (-1 : Int32) := by decide

theorem t86x {G : xG} {m : xM} {Q : xQt} {c b : Nat} {ma bow i nd : Int32} {R : Nat → Prop} [DecidablePred R] (hc : isC c) (hcn : m.1 c 5 ≤ 12) (hb : b < 6) (hnd : nd = 10 * m.1 (c + 2) b + ma + (if bow = -1 then 2 * m.1 c 1 else 0)) (hR : ∀ s, s < 2 ^ (ix (m.1 c 5)) → (R s ↔ sb s (oN (fun h => (m.1 (c + 9) h = nI b ∧ ¬ nI h = bow ∧ ¬ m.1 (c + 13) h ≤ 0)) (ix (m.1 c 5))) ∧ ¬ fd (fun h => if bitI s h then m.1 (c + 10) h else 0) (ix (m.1 c 5)) * m.1 (c + 1) b / 10 < nd)) (hR0 : ¬ R 0) (h4 : cnt (fun h => (oN (fun h => (m.1 (c + 9) h = nI b ∧ ¬ nI h = bow ∧ ¬ m.1 (c + 13) h ≤ 0)) (ix (m.1 c 5))).testBit h = true) (ix (m.1 c 5)) ≤ 4) (h : Q (some (.long (if fi (fun t => R t ∧ nI (cnt R t) = i) (2 ^ (ix (m.1 c 5))) < 2 ^ (ix (m.1 c 5)) then (nI (fi (fun t => R t ∧ nI (cnt R t) = i) (2 ^ (ix (m.1 c 5))))).toInt64 else if i = -1 then (nI (cnt R (2 ^ (ix (m.1 c 5))))).toInt64 else -1000000))) m) : Tri G 86 [.ref c, .int (nI b), .int ma, .int bow, .int i] m Q := by
  have hn12 : (ix (m.1 c 5)) ≤ 12 := ix_max (k := 12) hcn (by decide)
  have hb1 : (nI b).toNatClampNeg = b := nI_clamp (by omega)
  have hb2 : vp_in (nI b) 6 := xin_nI hb (by omega)
  have hOl := oN_lt (fun h => (m.1 (c + 9) h = nI b ∧ ¬ nI h = bow ∧ ¬ m.1 (c + 13) h ≤ 0)) (ix (m.1 c 5))
  have hcs := cnt_sb (oN (fun h => (m.1 (c + 9) h = nI b ∧ ¬ nI h = bow ∧ ¬ m.1 (c + 13) h ≤ 0)) (ix (m.1 c 5))) (ix (m.1 c 5))
  have hN : 2 ^ (ix (m.1 c 5)) ≤ 2 ^ 12 := Nat.pow_le_pow_right (by decide) hn12
  have h16 : cnt (fun t => sb t (oN (fun h => (m.1 (c + 9) h = nI b ∧ ¬ nI h = bow ∧ ¬ m.1 (c + 13) h ≤ 0)) (ix (m.1 c 5)))) (2 ^ (ix (m.1 c 5))) ≤ 16 := Nat.le_trans hcs (Nat.le_trans (Nat.pow_le_pow_right (by decide) h4) (by decide))
  refine tri_vc (ls := [.ref c, .int (nI b), .int ma, .int bow, .int i, .null, .null, .null, .null, .null]) (by decide +kernel) rfl (Nat.le_of_ble_eq_true rfl) ?_
  refine vc_seq (pc1 := 35) (ls1 := [.ref c, .int (nI b), .int ma, .int bow, .int i, .int nd, .int (nI (oN (fun h => (m.1 (c + 9) h = nI b ∧ ¬ nI h = bow ∧ ¬ m.1 (c + 13) h ≤ 0)) (ix (m.1 c 5)))), .int 0, .int 0, .int 1]) (m1 := m) (vc_wp (T := TT [(69, S69), (72, S72), (87, S87), (88, S88)]) (TTc t69 (TTc t72 (TTc t87 (TTc t88 TTn)))) (fun p => p == 35) (rt0 := some .long) rfl c86 rfl ?_) ?_
  · by_cases hw : bow = -1
    · rw [if_pos hw] at hnd
      simp (disch := omega) only [i86, wp_iinc, wpE0, wpE1, wpE2, wpE3, wpE4, wpE5, wpJ, okS, lt4S, popR, litS, Int32.reduceLT, Int32.reduceLE, List.getElem?_cons_zero, List.getElem?_cons_succ, Bool.false_eq_true, ↓reduceIte, Nat.reduceMod, Nat.reduceDiv, Nat.reduceAdd, Nat.reduceSub, Nat.reduceMul, Nat.reduceLeDiff, Nat.reduceEqDiff, Nat.reduceBEq, Int.reduceToNat, Int.reduceAdd, Int32.reduceOfInt, Int64.reduceOfInt, Int32.reduceToNatClampNeg, Int32.reduceOfNat, Bool.or_self, Bool.or_false, Bool.false_or, Bool.true_or, Bool.or_true, true_and, and_true, false_and, and_false, List.set_cons_zero, List.set_cons_succ, List.take_succ_cons, List.take_zero, List.drop_succ_cons, List.drop_zero, List.reverse_cons, List.reverse_nil, List.nil_append, List.cons_append, List.length_cons, List.length_nil, Option.toList_some, Option.toList_none, not_true_eq_false, not_false_eq_true, forall_const, true_implies, false_implies, nrw, TTS, s69, s72, s87, s88, shC hc, hc, hcn, hb1, hb2, and01, litS, neg1, clN, hw, subS, not_true_eq_false, not_false_eq_true, and_true, true_and, and_false, false_and, and_self, or_true, true_or, or_false, false_or, ↓reduceIte, if_true, if_false, eq_self]
      exact hnd
    · rw [if_neg hw] at hnd
      simp (disch := omega) only [i86, wp_iinc, wpE0, wpE1, wpE2, wpE3, wpE4, wpE5, wpJ, okS, lt4S, popR, litS, Int32.reduceLT, Int32.reduceLE, List.getElem?_cons_zero, List.getElem?_cons_succ, Bool.false_eq_true, ↓reduceIte, Nat.reduceMod, Nat.reduceDiv, Nat.reduceAdd, Nat.reduceSub, Nat.reduceMul, Nat.reduceLeDiff, Nat.reduceEqDiff, Nat.reduceBEq, Int.reduceToNat, Int.reduceAdd, Int32.reduceOfInt, Int64.reduceOfInt, Int32.reduceToNatClampNeg, Int32.reduceOfNat, Bool.or_self, Bool.or_false, Bool.false_or, Bool.true_or, Bool.or_true, true_and, and_true, false_and, and_false, List.set_cons_zero, List.set_cons_succ, List.take_succ_cons, List.take_zero, List.drop_succ_cons, List.drop_zero, List.reverse_cons, List.reverse_nil, List.nil_append, List.cons_append, List.length_cons, List.length_nil, Option.toList_some, Option.toList_none, not_true_eq_false, not_false_eq_true, forall_const, true_implies, false_implies, nrw, TTS, s69, s72, s87, s88, shC hc, hc, hcn, hb1, hb2, and01, litS, neg1, clN, hw, subS, not_true_eq_false, not_false_eq_true, and_true, true_and, and_false, false_and, and_self, or_true, true_or, or_false, false_or, ↓reduceIte, if_true, if_false, eq_self]
      exact hnd
  generalize hO : oN (fun h => (m.1 (c + 9) h = nI b ∧ ¬ nI h = bow ∧ ¬ m.1 (c + 13) h ≤ 0)) (ix (m.1 c 5)) = O at *
  have hO12 : O < 2 ^ 12 := by omega
  generalize hI : (fun (k : Nat) (ls : List Value) (m' : xM) => ∃ s j : Nat, k = 15 - j ∧ j ≤ 15 ∧ m = m' ∧ sb s O ∧ s < 2 ^ (ix (m.1 c 5)) ∧ cnt (fun t => sb t O) s = j ∧ (∀ t, t ≤ s → ¬ (R t ∧ nI (cnt R t) = i)) ∧ ls = [.ref c, .int (nI b), .int ma, .int bow, .int i, .int nd, .int (nI O), .int (nI (cnt R (s + 1))), .int (nI s), .int (nI (j + 1))]) = I
  have hI0 : I 15 [.ref c, .int (nI b), .int ma, .int bow, .int i, .int nd, .int (nI O), .int 0, .int 0, .int 1] m := by
    rw [← hI]
    refine ⟨0, 0, rfl, by omega, rfl, Nat.zero_and O, Nat.two_pow_pos _, rfl, fun t ht z => ?_, ?_⟩
    · rw [show t = 0 by omega] at z
      exact hR0 z.1
    · have e : cnt R (0 + 1) = 0 := by
        show 0 + (if R 0 then 1 else 0) = 0
        rw [if_neg hR0]
      rw [e]
      rfl
  refine vc_loop I (fun k ls m' hi => ?_) 15 _ m hI0
  rw [← hI] at hi
  obtain ⟨s, j, rfl, hj, rfl, hs, hsN, hcj, hno, rfl⟩ := hi
  have hsO := sb_le hs
  by_cases hj15 : j = 15
  · subst hj15
    have hgt : ∀ t, s < t → t < 2 ^ (ix (m.1 c 5)) → ¬ sb t O := by
      intro t h1 h2 h3
      have a1 : cnt (fun t => sb t O) (s + 1) = 16 := by
        show cnt (fun t => sb t O) s + (if sb s O then 1 else 0) = 16
        rw [if_pos hs, hcj]
      have a2 : cnt (fun t => sb t O) (t + 1) = cnt (fun t => sb t O) t + 1 := by
        show cnt (fun t => sb t O) t + (if sb t O then 1 else 0) = _
        rw [if_pos h3]
      have a3 := cnt_le2 (fun t => sb t O) (show s + 1 ≤ t by omega)
      have a4 := cnt_le2 (fun t => sb t O) (show t + 1 ≤ 2 ^ (ix (m.1 c 5)) by omega)
      omega
    have hx : (16 : Int32) ≤ nI (15 + 1) := by decide
    refine vc_wp (T := TT [(69, S69), (72, S72), (87, S87), (88, S88)]) (TTc t69 (TTc t72 (TTc t87 (TTc t88 TTn)))) (fun _ => false) (rt0 := some .long) rfl (ckl_drop 22 c86) rfl ?_
    simp (disch := omega) only [List.drop, i86, wp_iinc, wpE0, wpE1, wpE2, wpE3, wpE4, wpE5, wpJ, okS, lt4S, popR, litS, Int32.reduceLT, Int32.reduceLE, List.getElem?_cons_zero, List.getElem?_cons_succ, Bool.false_eq_true, ↓reduceIte, Nat.reduceMod, Nat.reduceDiv, Nat.reduceAdd, Nat.reduceSub, Nat.reduceMul, Nat.reduceLeDiff, Nat.reduceEqDiff, Nat.reduceBEq, Int.reduceToNat, Int.reduceAdd, Int32.reduceOfInt, Int64.reduceOfInt, Int32.reduceToNatClampNeg, Int32.reduceOfNat, Bool.or_self, Bool.or_false, Bool.false_or, Bool.true_or, Bool.or_true, true_and, and_true, false_and, and_false, List.set_cons_zero, List.set_cons_succ, List.take_succ_cons, List.take_zero, List.drop_succ_cons, List.drop_zero, List.reverse_cons, List.reverse_nil, List.nil_append, List.cons_append, List.length_cons, List.length_nil, Option.toList_some, Option.toList_none, not_true_eq_false, not_false_eq_true, forall_const, true_implies, false_implies, nrw, TTS, s69, s72, s87, s88, shC hc, hc, hcn, hb1, hb2, and01, litS, neg1, clN, ofIm, nI_1, hx, not_true_eq_false, not_false_eq_true, and_true, true_and, and_false, false_and, and_self, or_true, true_or, or_false, false_or, ↓reduceIte, if_true, if_false, eq_self]
    have hf := fi_out (p := fun t => R t ∧ nI (cnt R t) = i) (a := s + 1) (N := 2 ^ (ix (m.1 c 5))) (by omega) (fun t ht => hno t (by omega)) (fun t h1 h2 z => hgt t (by omega) h2 ((hR t h2).mp z.1).1)
    have hct : cnt R (2 ^ (ix (m.1 c 5))) = cnt R (s + 1) := cnt_none (by omega) (fun t h1 h2 z => hgt t (by omega) h2 ((hR t h2).mp z).1)
    rw [hf, if_neg (by omega), hct] at h
    refine ⟨fun z => ?_, fun z => ?_⟩
    · rw [if_pos z] at h; exact h
    · rw [if_neg z] at h; exact h
  have hj15 : j < 15 := by omega
  have hx : ¬ (16 : Int32) ≤ nI (j + 1) := nI_ge (b := 16) (by omega) (by omega)
  have hnx := nxt_int hO12 hs
  by_cases h0 : nxt s O = 0
  · have hsO2 := nxt_0 hs hO12 h0
    have hgt : ∀ t, s < t → t < 2 ^ (ix (m.1 c 5)) → ¬ sb t O := fun t h1 h2 h3 => by have := sb_le h3; omega
    rw [h0] at hnx
    have hnx : (nI s - nI O) &&& nI O = 0 := hnx
    refine vc_wp (T := TT [(69, S69), (72, S72), (87, S87), (88, S88)]) (TTc t69 (TTc t72 (TTc t87 (TTc t88 TTn)))) (fun _ => false) (rt0 := some .long) rfl (ckl_drop 22 c86) rfl ?_
    simp (disch := omega) only [List.drop, i86, wp_iinc, wpE0, wpE1, wpE2, wpE3, wpE4, wpE5, wpJ, okS, lt4S, popR, litS, Int32.reduceLT, Int32.reduceLE, List.getElem?_cons_zero, List.getElem?_cons_succ, Bool.false_eq_true, ↓reduceIte, Nat.reduceMod, Nat.reduceDiv, Nat.reduceAdd, Nat.reduceSub, Nat.reduceMul, Nat.reduceLeDiff, Nat.reduceEqDiff, Nat.reduceBEq, Int.reduceToNat, Int.reduceAdd, Int32.reduceOfInt, Int64.reduceOfInt, Int32.reduceToNatClampNeg, Int32.reduceOfNat, Bool.or_self, Bool.or_false, Bool.false_or, Bool.true_or, Bool.or_true, true_and, and_true, false_and, and_false, List.set_cons_zero, List.set_cons_succ, List.take_succ_cons, List.take_zero, List.drop_succ_cons, List.drop_zero, List.reverse_cons, List.reverse_nil, List.nil_append, List.cons_append, List.length_cons, List.length_nil, Option.toList_some, Option.toList_none, not_true_eq_false, not_false_eq_true, forall_const, true_implies, false_implies, nrw, TTS, s69, s72, s87, s88, shC hc, hc, hcn, hb1, hb2, and01, litS, neg1, clN, ofIm, nI_1, hx, hnx, not_true_eq_false, not_false_eq_true, and_true, true_and, and_false, false_and, and_self, or_true, true_or, or_false, false_or, ↓reduceIte, if_true, if_false, eq_self]
    have hf := fi_out (p := fun t => R t ∧ nI (cnt R t) = i) (a := s + 1) (N := 2 ^ (ix (m.1 c 5))) (by omega) (fun t ht => hno t (by omega)) (fun t h1 h2 z => hgt t (by omega) h2 ((hR t h2).mp z.1).1)
    have hct : cnt R (2 ^ (ix (m.1 c 5))) = cnt R (s + 1) := cnt_none (by omega) (fun t h1 h2 z => hgt t (by omega) h2 ((hR t h2).mp z).1)
    rw [hf, if_neg (by omega), hct] at h
    refine ⟨fun z => ?_, fun z => ?_⟩
    · rw [if_pos z] at h; exact h
    · rw [if_neg z] at h; exact h
  obtain ⟨g1, g2, g3⟩ := nxt_ne hO12 hs (fun z => h0 (by rw [nxt, if_pos z]))
  generalize nxt s O = s' at *
  have hs'O := sb_le g1
  have hs'N : s' < 2 ^ (ix (m.1 c 5)) := by omega
  have hz : ¬ nI s' = 0 := nI_ne0 (by omega) (by omega)
  have hgap : ∀ t, s < t → t < s' → ¬ sb t O := fun t h1 h2 h3 => by have := g3 t h3 h1; omega
  have hct : cnt R s' = cnt R (s + 1) := cnt_none (by omega) (fun t h1 h2 z => hgap t (by omega) h2 ((hR t (by omega)).mp z).1)
  have hcs' : cnt (fun t => sb t O) s' = j + 1 := by
    rw [cnt_none (a := s + 1) (by omega) (fun t h1 h2 => hgap t (by omega) h2)]
    show cnt (fun t => sb t O) s + (if sb s O then 1 else 0) = j + 1
    rw [if_pos hs, hcj]
  have hno' : ∀ t, t < s' → ¬ (R t ∧ nI (cnt R t) = i) := by
    intro t ht z
    by_cases y : t ≤ s
    · exact hno t y z
    · exact hgap t (by omega) ht ((hR t (by omega)).mp z.1).1
  have hcS : cnt R (s' + 1) = cnt R s' + (if R s' then 1 else 0) := rfl
  by_cases hl : fd (fun h => if bitI s' h then m.1 (c + 10) h else 0) (ix (m.1 c 5)) * m.1 (c + 1) b / 10 < nd
  · have hnR : ¬ R s' := fun z => ((hR s' hs'N).mp z).2 hl
    rw [if_neg hnR, Nat.add_zero, hct] at hcS
    refine vc_wp (T := TT [(69, S69), (72, S72), (87, S87), (88, S88)]) (TTc t69 (TTc t72 (TTc t87 (TTc t88 TTn)))) (fun _ => false) (rt0 := some .long) rfl (ckl_drop 22 c86) rfl ?_
    simp (disch := omega) only [List.drop, i86, wp_iinc, wpE0, wpE1, wpE2, wpE3, wpE4, wpE5, wpJ, okS, lt4S, popR, litS, Int32.reduceLT, Int32.reduceLE, List.getElem?_cons_zero, List.getElem?_cons_succ, Bool.false_eq_true, ↓reduceIte, Nat.reduceMod, Nat.reduceDiv, Nat.reduceAdd, Nat.reduceSub, Nat.reduceMul, Nat.reduceLeDiff, Nat.reduceEqDiff, Nat.reduceBEq, Int.reduceToNat, Int.reduceAdd, Int32.reduceOfInt, Int64.reduceOfInt, Int32.reduceToNatClampNeg, Int32.reduceOfNat, Bool.or_self, Bool.or_false, Bool.false_or, Bool.true_or, Bool.or_true, true_and, and_true, false_and, and_false, List.set_cons_zero, List.set_cons_succ, List.take_succ_cons, List.take_zero, List.drop_succ_cons, List.drop_zero, List.reverse_cons, List.reverse_nil, List.nil_append, List.cons_append, List.length_cons, List.length_nil, Option.toList_some, Option.toList_none, not_true_eq_false, not_false_eq_true, forall_const, true_implies, false_implies, nrw, TTS, s69, s72, s87, s88, shC hc, hc, hcn, hb1, hb2, and01, litS, neg1, clN, ofIm, nI_1, hx, hnx, hz, hl, not_true_eq_false, not_false_eq_true, and_true, true_and, and_false, false_and, and_self, or_true, true_or, or_false, false_or, ↓reduceIte, if_true, if_false, eq_self]
    refine ⟨15 - (j + 1), by omega, ?_⟩
    rw [← hI]
    refine ⟨s', j + 1, rfl, by omega, rfl, g1, hs'N, hcs', fun t ht z => ?_, ?_⟩
    · by_cases y : t = s'
      · rw [y] at z; exact hnR z.1
      · exact hno' t (by omega) z
    · rw [hcS]; rfl
  have hRs : R s' := (hR s' hs'N).mpr ⟨g1, hl⟩
  rw [if_pos hRs, hct] at hcS
  by_cases hi : nI (cnt R (s + 1)) = i
  · have hf := fi_hit (p := fun t => R t ∧ nI (cnt R t) = i) hs'N ⟨hRs, by rw [hct]; exact hi⟩ hno'
    rw [hf, if_pos hs'N] at h
    refine vc_wp (T := TT [(69, S69), (72, S72), (87, S87), (88, S88)]) (TTc t69 (TTc t72 (TTc t87 (TTc t88 TTn)))) (fun _ => false) (rt0 := some .long) rfl (ckl_drop 22 c86) rfl ?_
    simp (disch := omega) only [List.drop, i86, wp_iinc, wpE0, wpE1, wpE2, wpE3, wpE4, wpE5, wpJ, okS, lt4S, popR, litS, Int32.reduceLT, Int32.reduceLE, List.getElem?_cons_zero, List.getElem?_cons_succ, Bool.false_eq_true, ↓reduceIte, Nat.reduceMod, Nat.reduceDiv, Nat.reduceAdd, Nat.reduceSub, Nat.reduceMul, Nat.reduceLeDiff, Nat.reduceEqDiff, Nat.reduceBEq, Int.reduceToNat, Int.reduceAdd, Int32.reduceOfInt, Int64.reduceOfInt, Int32.reduceToNatClampNeg, Int32.reduceOfNat, Bool.or_self, Bool.or_false, Bool.false_or, Bool.true_or, Bool.or_true, true_and, and_true, false_and, and_false, List.set_cons_zero, List.set_cons_succ, List.take_succ_cons, List.take_zero, List.drop_succ_cons, List.drop_zero, List.reverse_cons, List.reverse_nil, List.nil_append, List.cons_append, List.length_cons, List.length_nil, Option.toList_some, Option.toList_none, not_true_eq_false, not_false_eq_true, forall_const, true_implies, false_implies, nrw, TTS, s69, s72, s87, s88, shC hc, hc, hcn, hb1, hb2, and01, litS, neg1, clN, ofIm, nI_1, hx, hnx, hz, hl, hi, not_true_eq_false, not_false_eq_true, and_true, true_and, and_false, false_and, and_self, or_true, true_or, or_false, false_or, ↓reduceIte, if_true, if_false, eq_self]
    exact h
  refine vc_wp (T := TT [(69, S69), (72, S72), (87, S87), (88, S88)]) (TTc t69 (TTc t72 (TTc t87 (TTc t88 TTn)))) (fun _ => false) (rt0 := some .long) rfl (ckl_drop 22 c86) rfl ?_
  simp (disch := omega) only [List.drop, i86, wp_iinc, wpE0, wpE1, wpE2, wpE3, wpE4, wpE5, wpJ, okS, lt4S, popR, litS, Int32.reduceLT, Int32.reduceLE, List.getElem?_cons_zero, List.getElem?_cons_succ, Bool.false_eq_true, ↓reduceIte, Nat.reduceMod, Nat.reduceDiv, Nat.reduceAdd, Nat.reduceSub, Nat.reduceMul, Nat.reduceLeDiff, Nat.reduceEqDiff, Nat.reduceBEq, Int.reduceToNat, Int.reduceAdd, Int32.reduceOfInt, Int64.reduceOfInt, Int32.reduceToNatClampNeg, Int32.reduceOfNat, Bool.or_self, Bool.or_false, Bool.false_or, Bool.true_or, Bool.or_true, true_and, and_true, false_and, and_false, List.set_cons_zero, List.set_cons_succ, List.take_succ_cons, List.take_zero, List.drop_succ_cons, List.drop_zero, List.reverse_cons, List.reverse_nil, List.nil_append, List.cons_append, List.length_cons, List.length_nil, Option.toList_some, Option.toList_none, not_true_eq_false, not_false_eq_true, forall_const, true_implies, false_implies, nrw, TTS, s69, s72, s87, s88, shC hc, hc, hcn, hb1, hb2, and01, litS, neg1, clN, ofIm, nI_1, hx, hnx, hz, hl, hi, not_true_eq_false, not_false_eq_true, and_true, true_and, and_false, false_and, and_self, or_true, true_or, or_false, false_or, ↓reduceIte, if_true, if_false, eq_self]
  refine ⟨15 - (j + 1), by omega, ?_⟩
  rw [← hI]
  refine ⟨s', j + 1, rfl, by omega, rfl, g1, hs'N, hcs', fun t ht z => ?_, ?_⟩
  · by_cases y : t = s'
    · rw [y, hct] at z; exact hi z.2
    · exact hno' t (by omega) z
  · rw [hcS]

