/-- the first place below n where p holds; n: there is none -/
def fi (p : Nat → Prop) [DecidablePred p] : Nat → Nat
  | 0 => 0
  | n + 1 => if fi p n < n then fi p n else if p n then n else n + 1
theorem fi_spec (p : Nat → Prop) [DecidablePred p] : ∀ n, (fi p n = n ∧ ∀ k, k < n → ¬ p k) ∨ (fi p n < n ∧ p (fi p n) ∧ ∀ k, k < fi p n → ¬ p k)
  | 0 => Or.inl ⟨rfl, fun k h => absurd h (by omega)⟩
  | n + 1 => by
    rcases fi_spec p n with ⟨h1, h2⟩ | ⟨h1, h2, h3⟩
    · by_cases hp : p n
      · have e : fi p (n + 1) = n := by
          show (if fi p n < n then fi p n else if p n then n else n + 1) = n
          rw [if_neg (by omega), if_pos hp]
        rw [e]
        exact Or.inr ⟨by omega, hp, h2⟩
      · have e : fi p (n + 1) = n + 1 := by
          show (if fi p n < n then fi p n else if p n then n else n + 1) = n + 1
          rw [if_neg (by omega), if_neg hp]
        refine Or.inl ⟨e, fun k hk => ?_⟩
        by_cases z : k = n
        · rw [z]; exact hp
        · exact h2 k (by omega)
    · have e : fi p (n + 1) = fi p n := by
        show (if fi p n < n then fi p n else if p n then n else n + 1) = fi p n
        rw [if_pos h1]
      rw [e]
      exact Or.inr ⟨by omega, h2, h3⟩
theorem fi_none {p : Nat → Prop} [DecidablePred p] {n : Nat} (h : ∀ k, k < n → ¬ p k) : fi p n = n := by
  rcases fi_spec p n with ⟨h1, h2⟩ | ⟨h1, h2, h3⟩
  · exact h1
  · exact absurd h2 (h _ h1)
theorem fi_hit {p : Nat → Prop} [DecidablePred p] {n i : Nat} (hi : i < n) (hp : p i) (h : ∀ k, k < i → ¬ p k) : fi p n = i := by
  rcases fi_spec p n with ⟨h1, h2⟩ | ⟨h1, h2, h3⟩
  · exact absurd hp (h2 i hi)
  · rcases Nat.lt_trichotomy (fi p n) i with z | z | z
    · exact absurd h2 (h _ z)
    · exact z
    · exact absurd hp (h3 i z)
theorem fi_c {p q : Nat → Prop} [DecidablePred p] [DecidablePred q] {n : Nat} (h : ∀ i, i < n → (p i ↔ q i)) : fi p n = fi q n := by
  rcases fi_spec p n with ⟨h1, h2⟩ | ⟨h1, h2, h3⟩
  · rw [h1, fi_none (fun k hk => fun z => h2 k hk ((h k hk).mpr z))]
  · exact (fi_hit h1 ((h _ h1).mp h2) (fun k hk z => h3 k hk ((h k (by omega)).mpr z))).symm
/-- a loop that looks for the first place -/
theorem vc_find {G : xG} {y : Nat} {Q : xQt} {K : Nat → List Value → List Value → xM → Prop} {pc : Nat} (n : Nat) (L : Nat → List Value) (m : xM) (p : Nat → Prop) [DecidablePred p] (hit : ∀ i, i < n → p i → fi p n = i → VC G y Q K pc (L i) [] m) (hs : ∀ i, i < n → ¬ p i → VC G y Q (fun pc' ls' st' m' => (pc' = pc ∧ st' = [] ∧ subL (L (i + 1)) ls' ∧ m' = m) ∨ K pc' ls' st' m') pc (L i) [] m) (hx : fi p n = n → (∀ k, k < n → ¬ p k) → VC G y Q K pc (L n) [] m) : VC G y Q K pc (L 0) [] m := by
  have key : ∀ d i, i + d = n → (∀ k, k < i → ¬ p k) → VC G y Q K pc (L i) [] m := by
    intro d
    induction d with
    | zero =>
      intro i hi hk
      have e : i = n := by omega
      subst e
      exact hx (fi_none hk) hk
    | succ d ih =>
      intro i hi hk
      by_cases hp : p i
      · exact hit i (by omega) hp (fi_hit (by omega) hp hk)
      · refine vc_mono ?_ (hs i (by omega) hp)
        intro pc' ls' st' m' h
        rcases h with ⟨rfl, rfl, h1, rfl⟩ | h
        · obtain ⟨g1, g2⟩ := subL_len h1
          refine vc_sub g1 g2 (ih (i + 1) (by omega) (fun k hk2 => ?_))
          by_cases z : k = i
          · rw [z]; exact hp
          · exact hk k (by omega)
        · exact fun hK hl => hK _ _ _ _ hl h
  exact key n 0 (by omega) (fun k hk => absurd hk (by omega))
/-- n as the first int above -/
theorem nI_ltE {a : Nat} {b : Int32} {c : Nat} (hb : b = nI c) (ha : a < 2 ^ 31) (hc : c < 2 ^ 31) : (b < nI a) = (c < a) := by
  rw [hb]; exact propext (nI_ltI hc ha)

theorem t90x {G : xG} {m : xM} {Q : xQt} {c j : Nat} (hc : isC c) (hj : j < 6) (h : Q (some (.int (if fi (fun i => ¬ nI (20 + i) * m.1 (c + 1) j / 10 < 10 * m.1 (c + 2) j + 0 + 2 * m.1 c 1) 131 < 131 then nI (20 + fi (fun i => ¬ nI (20 + i) * m.1 (c + 1) j / 10 < 10 * m.1 (c + 2) j + 0 + 2 * m.1 c 1) 131) else -1000000))) m) : Tri G 90 [.ref c, .int (nI j)] m Q := by
  refine tri_vc (ls := [.ref c, .int (nI j), .null, .null]) (by decide +kernel) rfl (Nat.le_of_ble_eq_true rfl) ?_
  have hij : (nI j).toNatClampNeg = j := nI_clamp (by omega)
  have hin : vp_in (nI j) 6 := xin_nI hj (by omega)
  refine vc_seq (pc1 := 11) (ls1 := [.ref c, .int (nI j), .int (10 * m.1 (c + 2) j + 0 + 2 * m.1 c 1), .int 20]) (m1 := m) (vc_wp (T := TT [(69, S69), (72, S72)]) (TTc t69 (TTc t72 TTn)) (fun p => p == 11) (rt0 := some .int) rfl c90 rfl ?_) ?_
  · simp (disch := omega) only [i90, wp_iinc, wpE0, wpE1, wpE2, wpE3, wpE4, wpE5, wpJ, okS, lt4S, popR, litS, Int32.reduceLT, Int32.reduceLE, List.getElem?_cons_zero, List.getElem?_cons_succ, Bool.false_eq_true, ↓reduceIte, Nat.reduceMod, Nat.reduceDiv, Nat.reduceAdd, Nat.reduceSub, Nat.reduceMul, Nat.reduceLeDiff, Nat.reduceEqDiff, Nat.reduceBEq, Int.reduceToNat, Int.reduceAdd, Int32.reduceOfInt, Int64.reduceOfInt, Int32.reduceToNatClampNeg, Int32.reduceOfNat, Bool.or_self, Bool.or_false, Bool.false_or, Bool.true_or, Bool.or_true, true_and, and_true, false_and, and_false, List.set_cons_zero, List.set_cons_succ, List.take_succ_cons, List.take_zero, List.drop_succ_cons, List.drop_zero, List.reverse_cons, List.reverse_nil, List.nil_append, List.cons_append, List.length_cons, List.length_nil, Option.toList_some, Option.toList_none, not_true_eq_false, not_false_eq_true, forall_const, true_implies, false_implies, nrw, TTS, s69, s72, shC hc, hc, hin, hij, and01, litS, subS, not_true_eq_false, not_false_eq_true, and_true, true_and, and_false, false_and, and_self, or_true, true_or, or_false, false_or, ↓reduceIte, if_true, if_false, eq_self]
  refine vc_find 131 (fun i => [.ref c, .int (nI j), .int (10 * m.1 (c + 2) j + 0 + 2 * m.1 c 1), .int (nI (20 + i))]) m (fun i => ¬ nI (20 + i) * m.1 (c + 1) j / 10 < 10 * m.1 (c + 2) j + 0 + 2 * m.1 c 1) (fun i hi hp hf => ?_) (fun i hi hp => ?_) (fun hf hk => ?_)
  · refine vc_wp (T := TT [(69, S69), (72, S72)]) (TTc t69 (TTc t72 TTn)) (fun _ => false) (rt0 := some .int) rfl (ckl_drop 8 c90) rfl ?_
    have hi2 : ¬ (150 : Int32) < nI (20 + i) := nI_nlt (a := 150) (by omega) (by omega)
    simp (disch := omega) only [List.drop, i90, wp_iinc, wpE0, wpE1, wpE2, wpE3, wpE4, wpE5, wpJ, okS, lt4S, popR, litS, Int32.reduceLT, Int32.reduceLE, List.getElem?_cons_zero, List.getElem?_cons_succ, Bool.false_eq_true, ↓reduceIte, Nat.reduceMod, Nat.reduceDiv, Nat.reduceAdd, Nat.reduceSub, Nat.reduceMul, Nat.reduceLeDiff, Nat.reduceEqDiff, Nat.reduceBEq, Int.reduceToNat, Int.reduceAdd, Int32.reduceOfInt, Int64.reduceOfInt, Int32.reduceToNatClampNeg, Int32.reduceOfNat, Bool.or_self, Bool.or_false, Bool.false_or, Bool.true_or, Bool.or_true, true_and, and_true, false_and, and_false, List.set_cons_zero, List.set_cons_succ, List.take_succ_cons, List.take_zero, List.drop_succ_cons, List.drop_zero, List.reverse_cons, List.reverse_nil, List.nil_append, List.cons_append, List.length_cons, List.length_nil, Option.toList_some, Option.toList_none, not_true_eq_false, not_false_eq_true, forall_const, true_implies, false_implies, nrw, TTS, s69, s72, shC hc, hc, hin, hij, and01, litS, subS, nI_1, hi2, hp, not_true_eq_false, not_false_eq_true, and_true, true_and, and_false, false_and, and_self, or_true, true_or, or_false, false_or, ↓reduceIte, if_true, if_false, eq_self]
    rw [hf, if_pos hi] at h
    exact h
  · refine vc_wp (T := TT [(69, S69), (72, S72)]) (TTc t69 (TTc t72 TTn)) (fun _ => false) (rt0 := some .int) rfl (ckl_drop 8 c90) rfl ?_
    have hi2 : ¬ (150 : Int32) < nI (20 + i) := nI_nlt (a := 150) (by omega) (by omega)
    have hp2 := hp
    try simp only [Classical.not_not] at hp2
    simp (disch := omega) only [List.drop, i90, wp_iinc, wpE0, wpE1, wpE2, wpE3, wpE4, wpE5, wpJ, okS, lt4S, popR, litS, Int32.reduceLT, Int32.reduceLE, List.getElem?_cons_zero, List.getElem?_cons_succ, Bool.false_eq_true, ↓reduceIte, Nat.reduceMod, Nat.reduceDiv, Nat.reduceAdd, Nat.reduceSub, Nat.reduceMul, Nat.reduceLeDiff, Nat.reduceEqDiff, Nat.reduceBEq, Int.reduceToNat, Int.reduceAdd, Int32.reduceOfInt, Int64.reduceOfInt, Int32.reduceToNatClampNeg, Int32.reduceOfNat, Bool.or_self, Bool.or_false, Bool.false_or, Bool.true_or, Bool.or_true, true_and, and_true, false_and, and_false, List.set_cons_zero, List.set_cons_succ, List.take_succ_cons, List.take_zero, List.drop_succ_cons, List.drop_zero, List.reverse_cons, List.reverse_nil, List.nil_append, List.cons_append, List.length_cons, List.length_nil, Option.toList_some, Option.toList_none, not_true_eq_false, not_false_eq_true, forall_const, true_implies, false_implies, nrw, TTS, s69, s72, shC hc, hc, hin, hij, and01, litS, subS, nI_1, hi2, hp2, (show ∀ x : Nat, 20 + (x + 1) = 20 + x + 1 from fun _ => rfl), not_true_eq_false, not_false_eq_true, and_true, true_and, and_false, false_and, and_self, or_true, true_or, or_false, false_or, ↓reduceIte, if_true, if_false, eq_self]

  · have hi2 : (150 : Int32) < nI (20 + 131) := nI_lt (a := 150) (by omega) (by omega)
    refine vc_wp (T := TT [(69, S69), (72, S72)]) (TTc t69 (TTc t72 TTn)) (fun _ => false) (rt0 := some .int) rfl (ckl_drop 8 c90) rfl ?_
    simp (disch := omega) only [List.drop, i90, wp_iinc, wpE0, wpE1, wpE2, wpE3, wpE4, wpE5, wpJ, okS, lt4S, popR, litS, Int32.reduceLT, Int32.reduceLE, List.getElem?_cons_zero, List.getElem?_cons_succ, Bool.false_eq_true, ↓reduceIte, Nat.reduceMod, Nat.reduceDiv, Nat.reduceAdd, Nat.reduceSub, Nat.reduceMul, Nat.reduceLeDiff, Nat.reduceEqDiff, Nat.reduceBEq, Int.reduceToNat, Int.reduceAdd, Int32.reduceOfInt, Int64.reduceOfInt, Int32.reduceToNatClampNeg, Int32.reduceOfNat, Bool.or_self, Bool.or_false, Bool.false_or, Bool.true_or, Bool.or_true, true_and, and_true, false_and, and_false, List.set_cons_zero, List.set_cons_succ, List.take_succ_cons, List.take_zero, List.drop_succ_cons, List.drop_zero, List.reverse_cons, List.reverse_nil, List.nil_append, List.cons_append, List.length_cons, List.length_nil, Option.toList_some, Option.toList_none, not_true_eq_false, not_false_eq_true, forall_const, true_implies, false_implies, nrw, TTS, s69, s72, shC hc, hc, hin, hij, and01, litS, hi2, not_true_eq_false, not_false_eq_true, and_true, true_and, and_false, false_and, and_self, or_true, true_or, or_false, false_or, ↓reduceIte, if_true, if_false, eq_self]
    rw [hf, if_neg (by omega)] at h
    exact h

def S90 (as : List Value) (m : xM) (Q : xQt) : Prop := match as with
  | [.ref c, .int b] => isC c ∧ (b = nI (ix b) ∧ ix b < 6) ∧ Q (some (.int (if fi (fun i => ¬ nI (20 + i) * m.1 (c + 1) (ix b) / 10 < 10 * m.1 (c + 2) (ix b) + 0 + 2 * m.1 c 1) 131 < 131 then nI (20 + fi (fun i => ¬ nI (20 + i) * m.1 (c + 1) (ix b) / 10 < 10 * m.1 (c + 2) (ix b) + 0 + 2 * m.1 c 1) 131) else -1000000))) m
  | _ => False
theorem s90 (c : Nat) (b : Int32) (m : xM) (Q : xQt) : S90 [.ref c, .int b] m Q = (isC c ∧ (b = nI (ix b) ∧ ix b < 6) ∧ Q (some (.int (if fi (fun i => ¬ nI (20 + i) * m.1 (c + 1) (ix b) / 10 < 10 * m.1 (c + 2) (ix b) + 0 + 2 * m.1 c 1) 131 < 131 then nI (20 + fi (fun i => ¬ nI (20 + i) * m.1 (c + 1) (ix b) / 10 < 10 * m.1 (c + 2) (ix b) + 0 + 2 * m.1 c 1) 131) else -1000000))) m) := rfl
theorem t90 {G : xG} : ∀ as m Q, S90 as m Q → Tri G 90 as m Q := by
  intro as m Q h
  match as, h with
  | [.ref c, .int b], h =>
    obtain ⟨hc, ⟨h1, h2⟩, h⟩ := h
    rw [h1]
    exact t90x hc h2 h

theorem m201 {G : xG} {m : xM} {Q : xQt} {j : Nat} (hj : j < 6) (hmb : 0 ≤ nI j ∧ nI j ≤ m.1 90 3 - 1) (h : Q (some (.long (if fi (fun i => ¬ nI (20 + i) * m.1 90 (5 + 4 * j + 0) / 10 < 10 * m.1 90 (5 + 4 * j + 1) + 0 + 2 * m.1 90 1) 131 < 131 then (nI (20 + fi (fun i => ¬ nI (20 + i) * m.1 90 (5 + 4 * j + 0) / 10 < 10 * m.1 90 (5 + 4 * j + 1) + 0 + 2 * m.1 90 1) 131)).toInt64 else -1000000))) (xa m 86 (upd (m.1 86) 0 0))) : Tri G 201 [.ref 86, .int (nI j)] m Q := by
  refine tri_vc (ls := [.ref 86, .int (nI j), .null]) (by decide +kernel) rfl (Nat.le_of_ble_eq_true rfl) ?_
  refine vc_seq (pc1 := 20) (ls1 := [.ref 86, .int (nI j), .int 20]) (m1 := (xa m 86 (upd (m.1 86) 0 0))) (vc_wp (T := TT [(177, S177), (186, S186), (192, S192)]) (TTc t177 (TTc t186 (TTc t192 TTn))) (fun p => p == 20) (rt0 := some .long) rfl c201 rfl ?_) ?_
  · simp (disch := omega) only [i201, wp_iinc, wpE0, wpE1, wpE2, wpE3, wpE4, wpE5, wpJ, okS, lt4S, popR, litS, Int32.reduceLT, Int32.reduceLE, List.getElem?_cons_zero, List.getElem?_cons_succ, Bool.false_eq_true, ↓reduceIte, Nat.reduceMod, Nat.reduceDiv, Nat.reduceAdd, Nat.reduceSub, Nat.reduceMul, Nat.reduceLeDiff, Nat.reduceEqDiff, Nat.reduceBEq, Int.reduceToNat, Int.reduceAdd, Int32.reduceOfInt, Int64.reduceOfInt, Int32.reduceToNatClampNeg, Int32.reduceOfNat, Bool.or_self, Bool.or_false, Bool.false_or, Bool.true_or, Bool.or_true, true_and, and_true, false_and, and_false, List.set_cons_zero, List.set_cons_succ, List.take_succ_cons, List.take_zero, List.drop_succ_cons, List.drop_zero, List.reverse_cons, List.reverse_nil, List.nil_append, List.cons_append, List.length_cons, List.length_nil, Option.toList_some, Option.toList_none, not_true_eq_false, not_false_eq_true, forall_const, true_implies, false_implies, nrw, TTS, s177, s186, s192, i186, i192, shM, shO, and01, bI_0, bI_and, isRl, cmpS, toLS, toL_le, toL_lt, i2lS, inM, Int64.reduceLE, Int64.reduceLT, xa_1, xa_2, xa_xa, upd_at, updU, linS, nI_add, nI_s2, clN, inN, inLS, Nat.reduceEqDiff, ↓reduceIte, not_true_eq_false, not_false_eq_true, and_true, true_and, and_false, false_and, and_self, or_true, true_or, or_false, false_or, ↓reduceIte, if_true, if_false, eq_self, hmb, ne10, subS, not_true_eq_false, not_false_eq_true, and_true, true_and, and_false, false_and, and_self, or_true, true_or, or_false, false_or, ↓reduceIte, if_true, if_false, eq_self]
  refine vc_find 131 (fun i => [.ref 86, .int (nI j), .int (nI (20 + i))]) (xa m 86 (upd (m.1 86) 0 0)) (fun i => ¬ nI (20 + i) * m.1 90 (5 + 4 * j + 0) / 10 < 10 * m.1 90 (5 + 4 * j + 1) + 0 + 2 * m.1 90 1) (fun i hi hp hf => ?_) (fun i hi hp => ?_) (fun hf hk => ?_)
  · refine vc_wp (T := TT [(177, S177), (186, S186), (192, S192)]) (TTc t177 (TTc t186 (TTc t192 TTn))) (fun _ => false) (rt0 := some .long) rfl (ckl_drop 11 c201) rfl ?_
    have hi2 : ¬ (150 : Int32) < nI (20 + i) := nI_nlt (a := 150) (by omega) (by omega)
    simp (disch := omega) only [List.drop, i201, wp_iinc, wpE0, wpE1, wpE2, wpE3, wpE4, wpE5, wpJ, okS, lt4S, popR, litS, Int32.reduceLT, Int32.reduceLE, List.getElem?_cons_zero, List.getElem?_cons_succ, Bool.false_eq_true, ↓reduceIte, Nat.reduceMod, Nat.reduceDiv, Nat.reduceAdd, Nat.reduceSub, Nat.reduceMul, Nat.reduceLeDiff, Nat.reduceEqDiff, Nat.reduceBEq, Int.reduceToNat, Int.reduceAdd, Int32.reduceOfInt, Int64.reduceOfInt, Int32.reduceToNatClampNeg, Int32.reduceOfNat, Bool.or_self, Bool.or_false, Bool.false_or, Bool.true_or, Bool.or_true, true_and, and_true, false_and, and_false, List.set_cons_zero, List.set_cons_succ, List.take_succ_cons, List.take_zero, List.drop_succ_cons, List.drop_zero, List.reverse_cons, List.reverse_nil, List.nil_append, List.cons_append, List.length_cons, List.length_nil, Option.toList_some, Option.toList_none, not_true_eq_false, not_false_eq_true, forall_const, true_implies, false_implies, nrw, TTS, s177, s186, s192, i186, i192, shM, shO, and01, bI_0, bI_and, isRl, cmpS, toLS, toL_le, toL_lt, i2lS, inM, Int64.reduceLE, Int64.reduceLT, xa_1, xa_2, xa_xa, upd_at, updU, linS, nI_add, nI_s2, clN, inN, inLS, Nat.reduceEqDiff, ↓reduceIte, not_true_eq_false, not_false_eq_true, and_true, true_and, and_false, false_and, and_self, or_true, true_or, or_false, false_or, ↓reduceIte, if_true, if_false, eq_self, hmb, ne10, subS, nI_1, hi2, hp, not_true_eq_false, not_false_eq_true, and_true, true_and, and_false, false_and, and_self, or_true, true_or, or_false, false_or, ↓reduceIte, if_true, if_false, eq_self]
    rw [hf, if_pos hi] at h
    exact h
  · refine vc_wp (T := TT [(177, S177), (186, S186), (192, S192)]) (TTc t177 (TTc t186 (TTc t192 TTn))) (fun _ => false) (rt0 := some .long) rfl (ckl_drop 11 c201) rfl ?_
    have hi2 : ¬ (150 : Int32) < nI (20 + i) := nI_nlt (a := 150) (by omega) (by omega)
    have hp2 := hp
    try simp only [Classical.not_not] at hp2
    simp (disch := omega) only [List.drop, i201, wp_iinc, wpE0, wpE1, wpE2, wpE3, wpE4, wpE5, wpJ, okS, lt4S, popR, litS, Int32.reduceLT, Int32.reduceLE, List.getElem?_cons_zero, List.getElem?_cons_succ, Bool.false_eq_true, ↓reduceIte, Nat.reduceMod, Nat.reduceDiv, Nat.reduceAdd, Nat.reduceSub, Nat.reduceMul, Nat.reduceLeDiff, Nat.reduceEqDiff, Nat.reduceBEq, Int.reduceToNat, Int.reduceAdd, Int32.reduceOfInt, Int64.reduceOfInt, Int32.reduceToNatClampNeg, Int32.reduceOfNat, Bool.or_self, Bool.or_false, Bool.false_or, Bool.true_or, Bool.or_true, true_and, and_true, false_and, and_false, List.set_cons_zero, List.set_cons_succ, List.take_succ_cons, List.take_zero, List.drop_succ_cons, List.drop_zero, List.reverse_cons, List.reverse_nil, List.nil_append, List.cons_append, List.length_cons, List.length_nil, Option.toList_some, Option.toList_none, not_true_eq_false, not_false_eq_true, forall_const, true_implies, false_implies, nrw, TTS, s177, s186, s192, i186, i192, shM, shO, and01, bI_0, bI_and, isRl, cmpS, toLS, toL_le, toL_lt, i2lS, inM, Int64.reduceLE, Int64.reduceLT, xa_1, xa_2, xa_xa, upd_at, updU, linS, nI_add, nI_s2, clN, inN, inLS, Nat.reduceEqDiff, ↓reduceIte, not_true_eq_false, not_false_eq_true, and_true, true_and, and_false, false_and, and_self, or_true, true_or, or_false, false_or, ↓reduceIte, if_true, if_false, eq_self, hmb, ne10, subS, nI_1, hi2, hp2, (show ∀ x : Nat, 20 + (x + 1) = 20 + x + 1 from fun _ => rfl), not_true_eq_false, not_false_eq_true, and_true, true_and, and_false, false_and, and_self, or_true, true_or, or_false, false_or, ↓reduceIte, if_true, if_false, eq_self]

  · have hi2 : (150 : Int32) < nI (20 + 131) := nI_lt (a := 150) (by omega) (by omega)
    refine vc_wp (T := TT [(177, S177), (186, S186), (192, S192)]) (TTc t177 (TTc t186 (TTc t192 TTn))) (fun _ => false) (rt0 := some .long) rfl (ckl_drop 11 c201) rfl ?_
    simp (disch := omega) only [List.drop, i201, wp_iinc, wpE0, wpE1, wpE2, wpE3, wpE4, wpE5, wpJ, okS, lt4S, popR, litS, Int32.reduceLT, Int32.reduceLE, List.getElem?_cons_zero, List.getElem?_cons_succ, Bool.false_eq_true, ↓reduceIte, Nat.reduceMod, Nat.reduceDiv, Nat.reduceAdd, Nat.reduceSub, Nat.reduceMul, Nat.reduceLeDiff, Nat.reduceEqDiff, Nat.reduceBEq, Int.reduceToNat, Int.reduceAdd, Int32.reduceOfInt, Int64.reduceOfInt, Int32.reduceToNatClampNeg, Int32.reduceOfNat, Bool.or_self, Bool.or_false, Bool.false_or, Bool.true_or, Bool.or_true, true_and, and_true, false_and, and_false, List.set_cons_zero, List.set_cons_succ, List.take_succ_cons, List.take_zero, List.drop_succ_cons, List.drop_zero, List.reverse_cons, List.reverse_nil, List.nil_append, List.cons_append, List.length_cons, List.length_nil, Option.toList_some, Option.toList_none, not_true_eq_false, not_false_eq_true, forall_const, true_implies, false_implies, nrw, TTS, s177, s186, s192, i186, i192, shM, shO, and01, bI_0, bI_and, isRl, cmpS, toLS, toL_le, toL_lt, i2lS, inM, Int64.reduceLE, Int64.reduceLT, xa_1, xa_2, xa_xa, upd_at, updU, linS, nI_add, nI_s2, clN, inN, inLS, Nat.reduceEqDiff, ↓reduceIte, not_true_eq_false, not_false_eq_true, and_true, true_and, and_false, false_and, and_self, or_true, true_or, or_false, false_or, ↓reduceIte, if_true, if_false, eq_self, hmb, ne10, hi2, not_true_eq_false, not_false_eq_true, and_true, true_and, and_false, false_and, and_self, or_true, true_or, or_false, false_or, ↓reduceIte, if_true, if_false, eq_self]
    rw [hf, if_neg (by omega)] at h
    exact h

theorem p89 {G : xG} {m : xM} (hR : REL m) (a : Int32) {Q : xQt} (h : ∀ (rv : Int64) m1, MID G 201 [.ref 86, .int a] (.long rv) m1 → Q (some (.long rv)) m1) : Tri G 89 [.ref 0, .int a] m Q := by
  by_cases hb : ¬ a < 0 ∧ ¬ m.1 7 4 ≤ a
  · obtain ⟨j, hj, rfl, hjb, hij, hin⟩ := isB_of hR hb
    have hmb := m_isB hR (nI j)
    obtain ⟨e1, e2, e3, e4, e5, e6, e7, e8⟩ := R_b hR hjb
    refine tri_wp (T := TT [(59, S59), (90, S90)]) (ls := [.ref 0, .int (nI j)]) (TTc t59 (TTc t90 TTn)) c89 (by decide +kernel) (rt0 := some .long) rfl rfl (Nat.le_of_ble_eq_true rfl) rfl ?_
    simp (disch := omega) only [i89, wp_iinc, wpE0, wpE1, wpE2, wpE3, wpE4, wpE5, wpJ, okS, lt4S, popR, litS, Int32.reduceLT, Int32.reduceLE, List.getElem?_cons_zero, List.getElem?_cons_succ, Bool.false_eq_true, ↓reduceIte, Nat.reduceMod, Nat.reduceDiv, Nat.reduceAdd, Nat.reduceSub, Nat.reduceMul, Nat.reduceLeDiff, Nat.reduceEqDiff, Nat.reduceBEq, Int.reduceToNat, Int.reduceAdd, Int32.reduceOfInt, Int64.reduceOfInt, Int32.reduceToNatClampNeg, Int32.reduceOfNat, Bool.or_self, Bool.or_false, Bool.false_or, Bool.true_or, Bool.or_true, true_and, and_true, false_and, and_false, List.set_cons_zero, List.set_cons_succ, List.take_succ_cons, List.take_zero, List.drop_succ_cons, List.drop_zero, List.reverse_cons, List.reverse_nil, List.nil_append, List.cons_append, List.length_cons, List.length_nil, Option.toList_some, Option.toList_none, not_true_eq_false, not_false_eq_true, forall_const, true_implies, false_implies, nrw, TTS, s59, s90, shO, sh7L, and01, bI_0, bI_and, isCl, isRl, cmpS, toLS, toL_le, toL_lt, i2lS, inM, Int64.reduceLE, Int64.reduceLT, xa_1, xa_2, xa_xa, upd_at, updU, Nat.reduceEqDiff, ↓reduceIte, not_true_eq_false, not_false_eq_true, and_true, true_and, and_false, false_and, and_self, or_true, true_or, or_false, false_or, ↓reduceIte, if_true, if_false, eq_self, hb, hij, hin, hj]
    refine h _ _ (fun Q' hq => m201 hj (hmb.symm ▸ hb) ?_)
    have ep : fi (fun i => ¬ nI (20 + i) * m.1 90 (5 + 4 * j + 0) / 10 < 10 * m.1 90 (5 + 4 * j + 1) + 0 + 2 * m.1 90 1) 131 = fi (fun i => ¬ nI (20 + i) * m.1 8 j / 10 < 10 * m.1 9 j + 0 + 2 * m.1 7 1) 131 := by rw [← e5, ← e6, ← R_wi hR]
    rw [ep]
    have hq2 := hq _ (REL_thr hR 0)
    by_cases z : fi (fun i => ¬ nI (20 + i) * m.1 8 j / 10 < 10 * m.1 9 j + 0 + 2 * m.1 7 1) 131 < 131
    · rw [if_pos z] at hq2 ⊢
      exact hq2
    · rw [if_neg z] at hq2 ⊢
      exact hq2
  · have hmb := m_isB hR a
    refine tri_wp (T := TT [(59, S59), (90, S90)]) (ls := [.ref 0, .int a]) (TTc t59 (TTc t90 TTn)) c89 (by decide +kernel) (rt0 := some .long) rfl rfl (Nat.le_of_ble_eq_true rfl) rfl ?_
    simp only [i89, wp_iinc, wpE0, wpE1, wpE2, wpE3, wpE4, wpE5, wpJ, okS, lt4S, popR, litS, Int32.reduceLT, Int32.reduceLE, List.getElem?_cons_zero, List.getElem?_cons_succ, Bool.false_eq_true, ↓reduceIte, Nat.reduceMod, Nat.reduceDiv, Nat.reduceAdd, Nat.reduceSub, Nat.reduceMul, Nat.reduceLeDiff, Nat.reduceEqDiff, Nat.reduceBEq, Int.reduceToNat, Int.reduceAdd, Int32.reduceOfInt, Int64.reduceOfInt, Int32.reduceToNatClampNeg, Int32.reduceOfNat, Bool.or_self, Bool.or_false, Bool.false_or, Bool.true_or, Bool.or_true, true_and, and_true, false_and, and_false, List.set_cons_zero, List.set_cons_succ, List.take_succ_cons, List.take_zero, List.drop_succ_cons, List.drop_zero, List.reverse_cons, List.reverse_nil, List.nil_append, List.cons_append, List.length_cons, List.length_nil, Option.toList_some, Option.toList_none, not_true_eq_false, not_false_eq_true, forall_const, true_implies, false_implies, nrw, TTS, s59, s90, shO, sh7L, and01, bI_0, bI_and, isCl, isRl, cmpS, toLS, toL_le, toL_lt, i2lS, inM, Int64.reduceLE, Int64.reduceLT, xa_1, xa_2, xa_xa, upd_at, updU, Nat.reduceEqDiff, ↓reduceIte, not_true_eq_false, not_false_eq_true, and_true, true_and, and_false, false_and, and_self, or_true, true_or, or_false, false_or, ↓reduceIte, if_true, if_false, eq_self, hb]
    refine h _ _ (fun Q' hq => ?_)
    refine tri_wp (T := TT [(177, S177)]) (ls := [.ref 86, .int a, .null]) (TTc t177 TTn) c201 (by decide +kernel) (rt0 := some .long) rfl rfl (Nat.le_of_ble_eq_true rfl) rfl ?_
    simp only [i201, wp_iinc, wpE0, wpE1, wpE2, wpE3, wpE4, wpE5, wpJ, okS, lt4S, popR, litS, Int32.reduceLT, Int32.reduceLE, List.getElem?_cons_zero, List.getElem?_cons_succ, Bool.false_eq_true, ↓reduceIte, Nat.reduceMod, Nat.reduceDiv, Nat.reduceAdd, Nat.reduceSub, Nat.reduceMul, Nat.reduceLeDiff, Nat.reduceEqDiff, Nat.reduceBEq, Int.reduceToNat, Int.reduceAdd, Int32.reduceOfInt, Int64.reduceOfInt, Int32.reduceToNatClampNeg, Int32.reduceOfNat, Bool.or_self, Bool.or_false, Bool.false_or, Bool.true_or, Bool.or_true, true_and, and_true, false_and, and_false, List.set_cons_zero, List.set_cons_succ, List.take_succ_cons, List.take_zero, List.drop_succ_cons, List.drop_zero, List.reverse_cons, List.reverse_nil, List.nil_append, List.cons_append, List.length_cons, List.length_nil, Option.toList_some, Option.toList_none, not_true_eq_false, not_false_eq_true, forall_const, true_implies, false_implies, nrw, TTS, s177, shM, shO, and01, bI_0, bI_and, isRl, cmpS, toLS, toL_le, toL_lt, i2lS, inM, Int64.reduceLE, Int64.reduceLT, xa_1, xa_2, xa_xa, upd_at, updU, linS, nI_add, nI_s2, clN, inN, inLS, Nat.reduceEqDiff, ↓reduceIte, not_true_eq_false, not_false_eq_true, and_true, true_and, and_false, false_and, and_self, or_true, true_or, or_false, false_or, ↓reduceIte, if_true, if_false, eq_self, hmb, hb]
    exact hq _ (REL_thr hR 0)

