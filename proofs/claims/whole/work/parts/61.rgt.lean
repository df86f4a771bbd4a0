abbrev bitI (s h : Nat) : Prop := nI s >>> (nI h &&& 31) &&& 1 = 1
theorem bitI_iff {s h : Nat} (hs : s < 2 ^ 31) (hh : h < 12) : bitI s h ↔ s.testBit h = true := by
  have e1 : ((nI h &&& 31).toBitVec.smod 32).toNat = h := (by decide +kernel : ∀ h : Nat, h < 12 → ((nI h &&& 31).toBitVec.smod 32).toNat = h) h hh
  show nI s >>> (nI h &&& 31) &&& 1 = 1 ↔ _
  rw [pk_shrN hs _ h e1, pk_andN (Nat.lt_of_le_of_lt (Nat.div_le_self _ _) (by omega)) 1 (by decide)]
  rw [show (1 : Int32) = nI 1 from rfl, nI_eq (by omega) (by omega)]
  rw [Nat.testBit_eq_decide_div_mod_eq, decide_eq_true_eq]
/-- the set of the first n for which q holds -/
def oN (q : Nat → Prop) [DecidablePred q] : Nat → Nat
  | 0 => 0
  | n + 1 => if q n then 2 ^ n + oN q n else oN q n
theorem oN_lt (q : Nat → Prop) [DecidablePred q] : ∀ n, oN q n < 2 ^ n
  | 0 => (by decide : (0 : Nat) < 1)
  | n + 1 => by
    have ih := oN_lt q n
    unfold oN
    rw [Nat.pow_succ]
    split <;> omega
theorem oN_bit (q : Nat → Prop) [DecidablePred q] : ∀ n i, (oN q n).testBit i = true ↔ i < n ∧ q i
  | 0, i => by simp [oN]
  | n + 1, i => by
    have ih := oN_bit q n i
    have hlt := oN_lt q n
    have hnn : (oN q n).testBit n = false := Nat.testBit_lt_two_pow hlt
    unfold oN
    by_cases hq : q n
    · rw [if_pos hq]
      rcases Nat.lt_trichotomy i n with z | z | z
      · rw [Nat.testBit_two_pow_add_gt z, ih]
        exact ⟨fun y => ⟨by omega, y.2⟩, fun y => ⟨z, y.2⟩⟩
      · subst z
        rw [Nat.testBit_two_pow_add_eq, hnn]
        exact ⟨fun _ => ⟨by omega, hq⟩, fun _ => rfl⟩
      · have : (2 ^ n + oN q n).testBit i = false := Nat.testBit_lt_two_pow (by
          have : 2 ^ (n + 1) ≤ 2 ^ i := Nat.pow_le_pow_right (by decide) z
          rw [Nat.pow_succ] at this
          omega)
        rw [this]
        exact ⟨fun y => absurd y (by decide), fun y => absurd y.1 (by omega)⟩
    · rw [if_neg hq, ih]
      refine ⟨fun y => ⟨by omega, y.2⟩, fun y => ⟨?_, y.2⟩⟩
      by_cases z : i = n
      · rw [z] at y; exact absurd y.2 hq
      · omega
theorem or_nI {a b : Nat} (ha : a < 2 ^ 31) (hb : b < 2 ^ 31) : nI a ||| nI b = nI (a ||| b) := by
  apply Int32.toBitVec_inj.mp
  apply BitVec.eq_of_toNat_eq
  have hab : a ||| b < 2 ^ 31 := Nat.or_lt_two_pow ha hb
  rw [Int32.toBitVec_or, BitVec.toNat_or, pk_tn (by omega), pk_tn (by omega), pk_tn (by omega)]
theorem oN_or (q : Nat → Prop) [DecidablePred q] (n : Nat) : oN q n ||| 2 ^ n = 2 ^ n + oN q n := by
  have h := Nat.two_pow_add_eq_or_of_lt (oN_lt q n) 1
  rw [Nat.mul_one] at h
  rw [h, Nat.or_comm]
theorem sh1 {h : Nat} (hh : h < 13) : (1 : Int32) <<< (nI h &&& 31) = nI (2 ^ h) := (by decide +kernel : ∀ h : Nat, h < 13 → (1 : Int32) <<< (nI h &&& 31) = nI (2 ^ h)) h hh
theorem oN_s (q : Nat → Prop) [DecidablePred q] {n : Nat} (hn : n < 12) (hq : q n) : nI (oN q n) ||| (1 : Int32) <<< (nI n &&& 31) = nI (oN q (n + 1)) := by
  have h1 := oN_lt q n
  have h2 : 2 ^ n ≤ 2 ^ 12 := Nat.pow_le_pow_right (by decide) (by omega)
  rw [sh1 (by omega), or_nI (by omega) (by omega), oN_or]
  show _ = nI (if q n then 2 ^ n + oN q n else oN q n)
  rw [if_pos hq]
theorem sb_oN {q : Nat → Prop} [DecidablePred q] {s n : Nat} (hs : s < 2 ^ n) : sb s (oN q n) ↔ ∀ h, h < n → s.testBit h = true → q h := by
  refine ⟨fun h i hi hb => ?_, fun h => ?_⟩
  · have := congrArg (fun z => z.testBit i) h
    simp only [Nat.testBit_and, hb, Bool.true_and] at this
    exact ((oN_bit q n i).mp this).2
  · apply Nat.eq_of_testBit_eq
    intro i
    rw [Nat.testBit_and]
    cases hb : s.testBit i with
    | false => rfl
    | true =>
      have hi : i < n := by
        apply Classical.byContradiction
        intro z
        rw [Nat.testBit_lt_two_pow (Nat.lt_of_lt_of_le hs (Nat.pow_le_pow_right (by decide) (by omega)))] at hb
        exact absurd hb (by decide)
      rw [(oN_bit q n i).mpr ⟨hi, h i hi hb⟩]
      rfl

def S87 (as : List Value) (m : xM) (Q : xQt) : Prop := match as with
  | [.ref c, .int b, .int bow] => (isC c) ∧ (m.1 c 5 ≤ 12) ∧ Q (some (.int (nI (oN (fun h => (m.1 (c + 9) h = b ∧ ¬ nI h = bow ∧ ¬ m.1 (c + 13) h ≤ 0)) (ix (m.1 c 5)))))) m
  | _ => False
theorem s87 (c : Nat) (b : Int32) (bow : Int32) (m : xM) (Q : xQt) : S87 [.ref c, .int b, .int bow] m Q = ((isC c) ∧ (m.1 c 5 ≤ 12) ∧ Q (some (.int (nI (oN (fun h => (m.1 (c + 9) h = b ∧ ¬ nI h = bow ∧ ¬ m.1 (c + 13) h ≤ 0)) (ix (m.1 c 5)))))) m) := rfl
theorem t87 {G : xG} : ∀ as m Q, S87 as m Q → Tri G 87 as m Q := by
  intro as m Q h
  match as, h with
  | [.ref c, .int b, .int bow], h =>
    obtain ⟨hc, hn, h⟩ := h
    refine tri_vc (ls := [.ref c, .int b, .int bow, .null, .null]) (by decide +kernel) rfl (Nat.le_of_ble_eq_true rfl) ?_
    refine vc_seq (pc1 := 5) (ls1 := [.ref c, .int b, .int bow, .int 0, .int 0]) (m1 := m) (vc_wp (T := TT [(56, S56)]) (TTc t56 TTn) (fun p => p == 5) (rt0 := some .int) rfl c87 rfl ?_) ?_
    · simp (disch := omega) only [i87, wp_iinc, wpE0, wpE1, wpE2, wpE3, wpE4, wpE5, wpJ, okS, lt4S, popR, litS, Int32.reduceLT, Int32.reduceLE, List.getElem?_cons_zero, List.getElem?_cons_succ, Bool.false_eq_true, ↓reduceIte, Nat.reduceMod, Nat.reduceDiv, Nat.reduceAdd, Nat.reduceSub, Nat.reduceMul, Nat.reduceLeDiff, Nat.reduceEqDiff, Nat.reduceBEq, Int.reduceToNat, Int.reduceAdd, Int32.reduceOfInt, Int64.reduceOfInt, Int32.reduceToNatClampNeg, Int32.reduceOfNat, Bool.or_self, Bool.or_false, Bool.false_or, Bool.true_or, Bool.or_true, true_and, and_true, false_and, and_false, List.set_cons_zero, List.set_cons_succ, List.take_succ_cons, List.take_zero, List.drop_succ_cons, List.drop_zero, List.reverse_cons, List.reverse_nil, List.nil_append, List.cons_append, List.length_cons, List.length_nil, Option.toList_some, Option.toList_none, not_true_eq_false, not_false_eq_true, forall_const, true_implies, false_implies, nrw, TTS, s56, shC hc, hc, and01, bI_0, bI_and, litS, Classical.not_not, subS, not_true_eq_false, not_false_eq_true, and_true, true_and, and_false, false_and, and_self, or_true, true_or, or_false, false_or, ↓reduceIte, if_true, if_false, eq_self]
    refine vc_for (ix (m.1 c 5)) (fun i => [.ref c, .int b, .int bow, .int (nI (oN (fun h => (m.1 (c + 9) h = b ∧ ¬ nI h = bow ∧ ¬ m.1 (c + 13) h ≤ 0)) i)), .int (nI i)]) (fun i => m) (fun i hi => ?_) ?_
    · refine vc_wp (T := TT [(56, S56)]) (TTc t56 TTn) (fun _ => false) (rt0 := some .int) rfl (ckl_drop 4 c87) rfl ?_
      have hi12 : i < 12 := by have := ix_max (k := 12) hn (by decide); omega
      have hi2 : ¬ (ix (m.1 c 5)) ≤ i := by omega
      have hi3 : vp_in (nI i) 12 := xin_nI hi12 (by omega)
      have hi4 : (nI i).toNatClampNeg = i := nI_clamp (by omega)
      simp (disch := omega) only [List.drop, i87, wp_iinc, wpE0, wpE1, wpE2, wpE3, wpE4, wpE5, wpJ, okS, lt4S, popR, litS, Int32.reduceLT, Int32.reduceLE, List.getElem?_cons_zero, List.getElem?_cons_succ, Bool.false_eq_true, ↓reduceIte, Nat.reduceMod, Nat.reduceDiv, Nat.reduceAdd, Nat.reduceSub, Nat.reduceMul, Nat.reduceLeDiff, Nat.reduceEqDiff, Nat.reduceBEq, Int.reduceToNat, Int.reduceAdd, Int32.reduceOfInt, Int64.reduceOfInt, Int32.reduceToNatClampNeg, Int32.reduceOfNat, Bool.or_self, Bool.or_false, Bool.false_or, Bool.true_or, Bool.or_true, true_and, and_true, false_and, and_false, List.set_cons_zero, List.set_cons_succ, List.take_succ_cons, List.take_zero, List.drop_succ_cons, List.drop_zero, List.reverse_cons, List.reverse_nil, List.nil_append, List.cons_append, List.length_cons, List.length_nil, Option.toList_some, Option.toList_none, not_true_eq_false, not_false_eq_true, forall_const, true_implies, false_implies, nrw, TTS, s56, shC hc, hc, and01, bI_0, bI_and, litS, Classical.not_not, hi3, hi4, ix_le _ (show i < 2 ^ 31 by omega), subS, hi2, nI_1, fd, not_true_eq_false, not_false_eq_true, and_true, true_and, and_false, false_and, and_self, or_true, true_or, or_false, false_or, ↓reduceIte, if_true, if_false, eq_self]
      by_cases z1 : m.1 (c + 9) i = b
      · by_cases z2 : nI i = bow
        · have zz : ¬ (m.1 (c + 9) i = b ∧ ¬ nI i = bow ∧ ¬ m.1 (c + 13) i ≤ 0) := fun y => y.2.1 z2
          have ee : oN (fun h => (m.1 (c + 9) h = b ∧ ¬ nI h = bow ∧ ¬ m.1 (c + 13) h ≤ 0)) (i + 1) = oN (fun h => (m.1 (c + 9) h = b ∧ ¬ nI h = bow ∧ ¬ m.1 (c + 13) h ≤ 0)) i := if_neg zz
          simp only [z1, z2, ee, false_implies, true_implies, not_true_eq_false, not_false_eq_true, and_true, true_and, and_false, false_and, and_self, or_true, true_or, or_false, false_or, ↓reduceIte, if_true, if_false, eq_self]
        · by_cases z3 : m.1 (c + 13) i ≤ 0
          · have zz : ¬ (m.1 (c + 9) i = b ∧ ¬ nI i = bow ∧ ¬ m.1 (c + 13) i ≤ 0) := fun y => y.2.2 z3
            have ee : oN (fun h => (m.1 (c + 9) h = b ∧ ¬ nI h = bow ∧ ¬ m.1 (c + 13) h ≤ 0)) (i + 1) = oN (fun h => (m.1 (c + 9) h = b ∧ ¬ nI h = bow ∧ ¬ m.1 (c + 13) h ≤ 0)) i := if_neg zz
            simp only [z1, z2, z3, ee, false_implies, true_implies, not_true_eq_false, not_false_eq_true, and_true, true_and, and_false, false_and, and_self, or_true, true_or, or_false, false_or, ↓reduceIte, if_true, if_false, eq_self]
          · have ee := oN_s (fun h => (m.1 (c + 9) h = b ∧ ¬ nI h = bow ∧ ¬ m.1 (c + 13) h ≤ 0)) hi12 ⟨z1, z2, z3⟩
            simp only [z1, z2, z3, ee, false_implies, true_implies, not_true_eq_false, not_false_eq_true, and_true, true_and, and_false, false_and, and_self, or_true, true_or, or_false, false_or, ↓reduceIte, if_true, if_false, eq_self]
      · have zz : ¬ (m.1 (c + 9) i = b ∧ ¬ nI i = bow ∧ ¬ m.1 (c + 13) i ≤ 0) := fun y => z1 y.1
        have ee : oN (fun h => (m.1 (c + 9) h = b ∧ ¬ nI h = bow ∧ ¬ m.1 (c + 13) h ≤ 0)) (i + 1) = oN (fun h => (m.1 (c + 9) h = b ∧ ¬ nI h = bow ∧ ¬ m.1 (c + 13) h ≤ 0)) i := if_neg zz
        simp only [z1, ee, false_implies, true_implies, not_true_eq_false, not_false_eq_true, and_true, true_and, and_false, false_and, and_self, or_true, true_or, or_false, false_or, ↓reduceIte, if_true, if_false, eq_self]
    · have hi2 : (ix (m.1 c 5)) ≤ (ix (m.1 c 5)) := Nat.le_refl _
      have hi12 : (ix (m.1 c 5)) < 2 ^ 31 := by have := ix_max (k := 12) hn (by decide); omega
      refine vc_wp (T := TT [(56, S56)]) (TTc t56 TTn) (fun _ => false) (rt0 := some .int) rfl (ckl_drop 4 c87) rfl ?_
      simp (disch := omega) only [List.drop, i87, wp_iinc, wpE0, wpE1, wpE2, wpE3, wpE4, wpE5, wpJ, okS, lt4S, popR, litS, Int32.reduceLT, Int32.reduceLE, List.getElem?_cons_zero, List.getElem?_cons_succ, Bool.false_eq_true, ↓reduceIte, Nat.reduceMod, Nat.reduceDiv, Nat.reduceAdd, Nat.reduceSub, Nat.reduceMul, Nat.reduceLeDiff, Nat.reduceEqDiff, Nat.reduceBEq, Int.reduceToNat, Int.reduceAdd, Int32.reduceOfInt, Int64.reduceOfInt, Int32.reduceToNatClampNeg, Int32.reduceOfNat, Bool.or_self, Bool.or_false, Bool.false_or, Bool.true_or, Bool.or_true, true_and, and_true, false_and, and_false, List.set_cons_zero, List.set_cons_succ, List.take_succ_cons, List.take_zero, List.drop_succ_cons, List.drop_zero, List.reverse_cons, List.reverse_nil, List.nil_append, List.cons_append, List.length_cons, List.length_nil, Option.toList_some, Option.toList_none, not_true_eq_false, not_false_eq_true, forall_const, true_implies, false_implies, nrw, TTS, s56, shC hc, hc, and01, bI_0, bI_and, litS, Classical.not_not, ix_le _ hi12, hi2, not_true_eq_false, not_false_eq_true, and_true, true_and, and_false, false_and, and_self, or_true, true_or, or_false, false_or, ↓reduceIte, if_true, if_false, eq_self]
      exact h

theorem t88x {G : xG} {m : xM} {Q : xQt} {c s : Nat} (hc : isC c) (hn : m.1 c 5 ≤ 12) (h : Q (some (.int (fd (fun h => if bitI s h then m.1 (c + 10) h else 0) (ix (m.1 c 5))))) m) : Tri G 88 [.ref c, .int (nI s)] m Q := by
  refine tri_vc (ls := [.ref c, .int (nI s), .null, .null]) (by decide +kernel) rfl (Nat.le_of_ble_eq_true rfl) ?_
  refine vc_seq (pc1 := 4) (ls1 := [.ref c, .int (nI s), .int 0, .int 0]) (m1 := m) (vc_wp (T := TT []) TTn (fun p => p == 4) (rt0 := some .int) rfl c88 rfl ?_) ?_
  · simp (disch := omega) only [i88, wp_iinc, wpE0, wpE1, wpE2, wpE3, wpE4, wpE5, wpJ, okS, lt4S, popR, litS, Int32.reduceLT, Int32.reduceLE, List.getElem?_cons_zero, List.getElem?_cons_succ, Bool.false_eq_true, ↓reduceIte, Nat.reduceMod, Nat.reduceDiv, Nat.reduceAdd, Nat.reduceSub, Nat.reduceMul, Nat.reduceLeDiff, Nat.reduceEqDiff, Nat.reduceBEq, Int.reduceToNat, Int.reduceAdd, Int32.reduceOfInt, Int64.reduceOfInt, Int32.reduceToNatClampNeg, Int32.reduceOfNat, Bool.or_self, Bool.or_false, Bool.false_or, Bool.true_or, Bool.or_true, true_and, and_true, false_and, and_false, List.set_cons_zero, List.set_cons_succ, List.take_succ_cons, List.take_zero, List.drop_succ_cons, List.drop_zero, List.reverse_cons, List.reverse_nil, List.nil_append, List.cons_append, List.length_cons, List.length_nil, Option.toList_some, Option.toList_none, not_true_eq_false, not_false_eq_true, forall_const, true_implies, false_implies, nrw, TTS, shC hc, hc, and01, litS, Classical.not_not, subS, not_true_eq_false, not_false_eq_true, and_true, true_and, and_false, false_and, and_self, or_true, true_or, or_false, false_or, ↓reduceIte, if_true, if_false, eq_self]
  refine vc_for (ix (m.1 c 5)) (fun i => [.ref c, .int (nI s), .int (fd (fun h => if bitI s h then m.1 (c + 10) h else 0) i), .int (nI i)]) (fun i => m) (fun i hi => ?_) ?_
  · refine vc_wp (T := TT []) TTn (fun _ => false) (rt0 := some .int) rfl (ckl_drop 4 c88) rfl ?_
    have hi12 : i < 12 := by have := ix_max (k := 12) hn (by decide); omega
    have hi2 : ¬ (ix (m.1 c 5)) ≤ i := by omega
    have hi3 : vp_in (nI i) 12 := xin_nI hi12 (by omega)
    have hi4 : (nI i).toNatClampNeg = i := nI_clamp (by omega)
    simp (disch := omega) only [List.drop, i88, wp_iinc, wpE0, wpE1, wpE2, wpE3, wpE4, wpE5, wpJ, okS, lt4S, popR, litS, Int32.reduceLT, Int32.reduceLE, List.getElem?_cons_zero, List.getElem?_cons_succ, Bool.false_eq_true, ↓reduceIte, Nat.reduceMod, Nat.reduceDiv, Nat.reduceAdd, Nat.reduceSub, Nat.reduceMul, Nat.reduceLeDiff, Nat.reduceEqDiff, Nat.reduceBEq, Int.reduceToNat, Int.reduceAdd, Int32.reduceOfInt, Int64.reduceOfInt, Int32.reduceToNatClampNeg, Int32.reduceOfNat, Bool.or_self, Bool.or_false, Bool.false_or, Bool.true_or, Bool.or_true, true_and, and_true, false_and, and_false, List.set_cons_zero, List.set_cons_succ, List.take_succ_cons, List.take_zero, List.drop_succ_cons, List.drop_zero, List.reverse_cons, List.reverse_nil, List.nil_append, List.cons_append, List.length_cons, List.length_nil, Option.toList_some, Option.toList_none, not_true_eq_false, not_false_eq_true, forall_const, true_implies, false_implies, nrw, TTS, shC hc, hc, and01, litS, Classical.not_not, hi3, hi4, ix_le _ (show i < 2 ^ 31 by omega), subS, hi2, nI_1, fd, not_true_eq_false, not_false_eq_true, and_true, true_and, and_false, false_and, and_self, or_true, true_or, or_false, false_or, ↓reduceIte, if_true, if_false, eq_self]
    refine ⟨fun z => ?_, fun z => ?_⟩
    · rw [if_pos z]
    · rw [if_neg z]
  · have hi2 : (ix (m.1 c 5)) ≤ (ix (m.1 c 5)) := Nat.le_refl _
    have hi12 : (ix (m.1 c 5)) < 2 ^ 31 := by have := ix_max (k := 12) hn (by decide); omega
    refine vc_wp (T := TT []) TTn (fun _ => false) (rt0 := some .int) rfl (ckl_drop 4 c88) rfl ?_
    simp (disch := omega) only [List.drop, i88, wp_iinc, wpE0, wpE1, wpE2, wpE3, wpE4, wpE5, wpJ, okS, lt4S, popR, litS, Int32.reduceLT, Int32.reduceLE, List.getElem?_cons_zero, List.getElem?_cons_succ, Bool.false_eq_true, ↓reduceIte, Nat.reduceMod, Nat.reduceDiv, Nat.reduceAdd, Nat.reduceSub, Nat.reduceMul, Nat.reduceLeDiff, Nat.reduceEqDiff, Nat.reduceBEq, Int.reduceToNat, Int.reduceAdd, Int32.reduceOfInt, Int64.reduceOfInt, Int32.reduceToNatClampNeg, Int32.reduceOfNat, Bool.or_self, Bool.or_false, Bool.false_or, Bool.true_or, Bool.or_true, true_and, and_true, false_and, and_false, List.set_cons_zero, List.set_cons_succ, List.take_succ_cons, List.take_zero, List.drop_succ_cons, List.drop_zero, List.reverse_cons, List.reverse_nil, List.nil_append, List.cons_append, List.length_cons, List.length_nil, Option.toList_some, Option.toList_none, not_true_eq_false, not_false_eq_true, forall_const, true_implies, false_implies, nrw, TTS, shC hc, hc, and01, litS, Classical.not_not, ix_le _ hi12, hi2, not_true_eq_false, not_false_eq_true, and_true, true_and, and_false, false_and, and_self, or_true, true_or, or_false, false_or, ↓reduceIte, if_true, if_false, eq_self]
    exact h

def S88 (as : List Value) (m : xM) (Q : xQt) : Prop := match as with
  | [.ref c, .int a] => isC c ∧ (m.1 c 5 ≤ 12) ∧ a = nI (ix a) ∧ Q (some (.int (fd (fun h => if bitI (ix a) h then m.1 (c + 10) h else 0) (ix (m.1 c 5))))) m
  | _ => False
theorem s88 (c : Nat) (a : Int32) (m : xM) (Q : xQt) : S88 [.ref c, .int a] m Q = (isC c ∧ (m.1 c 5 ≤ 12) ∧ a = nI (ix a) ∧ Q (some (.int (fd (fun h => if bitI (ix a) h then m.1 (c + 10) h else 0) (ix (m.1 c 5))))) m) := rfl
theorem t88 {G : xG} : ∀ as m Q, S88 as m Q → Tri G 88 as m Q := by
  intro as m Q h
  match as, h with
  | [.ref c, .int a], h =>
    obtain ⟨hc, hn, h1, h⟩ := h
    rw [h1]
    exact t88x hc hn h

