theorem ltx_tr {n : Nat} {f g h : Nat → Nat} (h1 : ltx n f g) (h2 : ltx n g h) : ltx n f h := by
  obtain ⟨d, d1, d2, d3⟩ := h1
  obtain ⟨e, e1, e2, e3⟩ := h2
  rcases Nat.lt_trichotomy d e with z | z | z
  · exact ⟨d, d1, fun i hi => (d2 i hi).trans (e2 i (by omega)), by rw [← e2 d z]; exact d3⟩
  · subst z; exact ⟨d, d1, fun i hi => (d2 i hi).trans (e2 i hi), by omega⟩
  · exact ⟨e, e1, fun i hi => (d2 i (by omega)).trans (e2 i hi), by rw [d2 e z]; exact e3⟩
theorem ltx_eql {n : Nat} {f g h : Nat → Nat} (he : ∀ i, i < n → f i = g i) (h1 : ltx n f h) : ltx n g h := by
  obtain ⟨d, d1, d2, d3⟩ := h1
  exact ⟨d, d1, fun i hi => (he i (by omega)).symm.trans (d2 i hi), by rw [← he d d1]; exact d3⟩
theorem ltx_eqr {n : Nat} {f g h : Nat → Nat} (he : ∀ i, i < n → f i = g i) (h1 : ltx n h f) : ltx n h g := by
  obtain ⟨d, d1, d2, d3⟩ := h1
  exact ⟨d, d1, fun i hi => (d2 i hi).trans (he i (by omega)), by rw [← he d d1]; exact d3⟩
theorem ct_eq {n r M : Nat} {w f g : Nat → Nat} (he : ∀ i, i < n → f i = g i) : ct r M w f n = ct r M w g n := sm_c (fun i hi => by rw [he i hi])
def cd (f : Nat → Nat) : Nat → Nat
  | 0 => 0
  | n + 1 => 6 * cd f n + f n
theorem cd_c {f g : Nat → Nat} : ∀ {n : Nat}, (∀ i, i < n → f i = g i) → cd f n = cd g n
  | 0, _ => rfl
  | n + 1, h => by rw [cd, cd, cd_c (fun i hi => h i (by omega)), h n (by omega)]
theorem cd_lt {f g : Nat → Nat} : ∀ {n : Nat}, (∀ i, i < n → f i < 6) → ltx n f g → cd f n < cd g n
  | 0, _, h => by obtain ⟨d, d1, _⟩ := h; omega
  | n + 1, hf, h => by
    obtain ⟨d, d1, d2, d3⟩ := h
    show 6 * cd f n + f n < 6 * cd g n + g n
    by_cases z : d = n
    · subst z; rw [cd_c d2]; omega
    · have := cd_lt (f := f) (g := g) (n := n) (fun i hi => hf i (by omega)) ⟨d, by omega, d2, d3⟩
      have := hf n (by omega)
      omega
theorem cd_b {f : Nat → Nat} : ∀ {n : Nat}, (∀ i, i < n → f i < 6) → cd f n < 6 ^ n
  | 0, _ => by show 0 < 1; decide
  | n + 1, hf => by
    have := cd_b (f := f) (n := n) (fun i hi => hf i (by omega))
    have := hf n (by omega)
    rw [Nat.pow_succ]
    show 6 * cd f n + f n < _
    omega
theorem ct_b {r M : Nat} {w f : Nat → Nat} (hr : 1 ≤ r) (hM : M ≤ 20) : ∀ {n : Nat}, n ≤ 6 → (∀ i, i < n → w (f i) ≤ 99) → ct r M w f n ≤ n * 11880
  | 0, _, _ => Nat.le_refl _
  | n + 1, hn, hw => by
    have ih := ct_b (r := r) (M := M) (w := w) (f := f) hr hM (n := n) (by omega) (fun i hi => hw i (by omega))
    have h1 := hw n (by omega)
    have h2 : n / r + 1 ≤ 6 := by have := Nat.div_le_self n r; omega
    have h3 : w (f n) * (n / r + 1) * M ≤ 99 * 6 * 20 := Nat.mul_le_mul (Nat.mul_le_mul h1 h2) hM
    show ct r M w f n + w (f n) * (n / r + 1) * M ≤ (n + 1) * 11880
    rw [Nat.succ_mul]
    omega
/-- a loop that looks, and changes -/
theorem vc_findM {G : xG} {y : Nat} {Q : xQt} {K : Nat → List Value → List Value → xM → Prop} {pc : Nat} (n : Nat) (L : Nat → List Value) (M : Nat → xM) (p : Nat → Prop) [DecidablePred p] (hit : ∀ i, i < n → p i → fi p n = i → VC G y Q K pc (L i) [] (M i)) (hs : ∀ i, i < n → ¬ p i → VC G y Q (fun pc' ls' st' m' => (pc' = pc ∧ st' = [] ∧ subL (L (i + 1)) ls' ∧ m' = M (i + 1)) ∨ K pc' ls' st' m') pc (L i) [] (M i)) (hx : fi p n = n → (∀ k, k < n → ¬ p k) → VC G y Q K pc (L n) [] (M n)) : VC G y Q K pc (L 0) [] (M 0) := by
  have key : ∀ d i, i + d = n → (∀ k, k < i → ¬ p k) → VC G y Q K pc (L i) [] (M i) := by
    intro d
    induction d with
    | zero =>
      intro i hi hk
      have e : i = n := by omega
      subst e
      exact hx (fi_none hk) hk
    | succ d ih =>
      intro i hi hk
      by_cases hp : p i
      · exact hit i (by omega) hp (fi_hit (by omega) hp hk)
      · refine vc_mono ?_ (hs i (by omega) hp)
        intro pc' ls' st' m' h
        rcases h with ⟨rfl, rfl, h1, rfl⟩ | h
        · obtain ⟨g1, g2⟩ := subL_len h1
          refine vc_sub g1 g2 (ih (i + 1) (by omega) (fun k hk2 => ?_))
          by_cases z : k = i
          · rw [z]; exact hp
          · exact hk k (by omega)
        · exact fun hK hl => hK _ _ _ _ hl h
  exact key n 0 (by omega) (fun k hk => absurd hk (by omega))

theorem t211x {G : xG} {m : xM} {Q : xQt} {rr r M n : Nat} {w f : Nat → Nat} (hrr : rr < 8) (hr : 1 ≤ r ∧ r ≤ 2) (hM : M ≤ 20) (hn : n ≤ 6) (hnb : m.1 90 3 = nI n) (hf0 : pm n f) (hm : ∀ i, i < n → m.1 95 i = nI (f i)) (hw : ∀ v, v < n → m.1 89 (40 * rr + v) = nI (w v)) (h : Q (some (.int (nI (ct r M w f n)))) m) : Tri G 211 [.ref 86, .int (nI (40 * rr)), .int (nI r), .int (nI M)] m Q := by
  have hr0 : ¬ nI r = 0 := nI_ne0 (by omega) (by omega)
  refine tri_vc (ls := [.ref 86, .int (nI (40 * rr)), .int (nI r), .int (nI M), .null, .null]) (by decide +kernel) rfl (Nat.le_of_ble_eq_true rfl) ?_
  refine vc_seq (pc1 := 6) (ls1 := [.ref 86, .int (nI (40 * rr)), .int (nI r), .int (nI M), .int 0, .int 0]) (m1 := m) (vc_wp (T := TT []) TTn (fun p => p == 6) (rt0 := some .int) rfl c211 rfl ?_) ?_
  · simp (disch := omega) only [i211, wp_iinc, wpE0, wpE1, wpE2, wpE3, wpE4, wpE5, wpJ, okS, lt4S, popR, litS, Int32.reduceLT, Int32.reduceLE, List.getElem?_cons_zero, List.getElem?_cons_succ, Bool.false_eq_true, ↓reduceIte, Nat.reduceMod, Nat.reduceDiv, Nat.reduceAdd, Nat.reduceSub, Nat.reduceMul, Nat.reduceLeDiff, Nat.reduceEqDiff, Nat.reduceBEq, Int.reduceToNat, Int.reduceAdd, Int32.reduceOfInt, Int64.reduceOfInt, Int32.reduceToNatClampNeg, Int32.reduceOfNat, Bool.or_self, Bool.or_false, Bool.false_or, Bool.true_or, Bool.or_true, true_and, and_true, false_and, and_false, List.set_cons_zero, List.set_cons_succ, List.take_succ_cons, List.take_zero, List.drop_succ_cons, List.drop_zero, List.reverse_cons, List.reverse_nil, List.nil_append, List.cons_append, List.length_cons, List.length_nil, Option.toList_some, Option.toList_none, not_true_eq_false, not_false_eq_true, forall_const, true_implies, false_implies, nrw, TTS, shM, shO, and01, bI_0, bI_and, isRl, cmpS, toLS, toL_le, toL_lt, i2lS, inM, Int64.reduceLE, Int64.reduceLT, xa_1, xa_2, xa_xa, upd_at, updU, linS, nI_add, nI_s2, clN, inN, inLS, Nat.reduceEqDiff, ↓reduceIte, not_true_eq_false, not_false_eq_true, and_true, true_and, and_false, false_and, and_self, or_true, true_or, or_false, false_or, ↓reduceIte, if_true, if_false, eq_self, hnb, hr0, pk_mul, pk_div, subS, not_true_eq_false, not_false_eq_true, and_true, true_and, and_false, false_and, and_self, or_true, true_or, or_false, false_or, ↓reduceIte, if_true, if_false, eq_self]
  refine vc_for n (fun i => [.ref 86, .int (nI (40 * rr)), .int (nI r), .int (nI M), .int (nI (ct r M w f i)), .int (nI i)]) (fun i => m) (fun i hi => ?_) ?_
  · refine vc_wp (T := TT []) TTn (fun _ => false) (rt0 := some .int) rfl (ckl_drop 4 c211) rfl ?_
    have hi2 : ¬ nI n ≤ nI i := nI_ge hi (by omega)
    have hmi := hm i hi
    have hfi := hf0.1 i hi
    have hwi := hw (f i) hfi
    have ect : ct r M w f i + w (f i) * (i / r + 1) * M = ct r M w f (i + 1) := rfl
    simp (disch := omega) only [List.drop, i211, wp_iinc, wpE0, wpE1, wpE2, wpE3, wpE4, wpE5, wpJ, okS, lt4S, popR, litS, Int32.reduceLT, Int32.reduceLE, List.getElem?_cons_zero, List.getElem?_cons_succ, Bool.false_eq_true, ↓reduceIte, Nat.reduceMod, Nat.reduceDiv, Nat.reduceAdd, Nat.reduceSub, Nat.reduceMul, Nat.reduceLeDiff, Nat.reduceEqDiff, Nat.reduceBEq, Int.reduceToNat, Int.reduceAdd, Int32.reduceOfInt, Int64.reduceOfInt, Int32.reduceToNatClampNeg, Int32.reduceOfNat, Bool.or_self, Bool.or_false, Bool.false_or, Bool.true_or, Bool.or_true, true_and, and_true, false_and, and_false, List.set_cons_zero, List.set_cons_succ, List.take_succ_cons, List.take_zero, List.drop_succ_cons, List.drop_zero, List.reverse_cons, List.reverse_nil, List.nil_append, List.cons_append, List.length_cons, List.length_nil, Option.toList_some, Option.toList_none, not_true_eq_false, not_false_eq_true, forall_const, true_implies, false_implies, nrw, TTS, shM, shO, and01, bI_0, bI_and, isRl, cmpS, toLS, toL_le, toL_lt, i2lS, inM, Int64.reduceLE, Int64.reduceLT, xa_1, xa_2, xa_xa, upd_at, updU, linS, nI_add, nI_s2, clN, inN, inLS, Nat.reduceEqDiff, ↓reduceIte, not_true_eq_false, not_false_eq_true, and_true, true_and, and_false, false_and, and_self, or_true, true_or, or_false, false_or, ↓reduceIte, if_true, if_false, eq_self, hnb, hr0, pk_mul, pk_div, hmi, hwi, hfi, ect, subS, hi2, nI_1, fd, not_true_eq_false, not_false_eq_true, and_true, true_and, and_false, false_and, and_self, or_true, true_or, or_false, false_or, ↓reduceIte, if_true, if_false, eq_self]
  · have hi2 : nI n ≤ nI n := Int32.le_refl _
    refine vc_wp (T := TT []) TTn (fun _ => false) (rt0 := some .int) rfl (ckl_drop 4 c211) rfl ?_
    simp (disch := omega) only [List.drop, i211, wp_iinc, wpE0, wpE1, wpE2, wpE3, wpE4, wpE5, wpJ, okS, lt4S, popR, litS, Int32.reduceLT, Int32.reduceLE, List.getElem?_cons_zero, List.getElem?_cons_succ, Bool.false_eq_true, ↓reduceIte, Nat.reduceMod, Nat.reduceDiv, Nat.reduceAdd, Nat.reduceSub, Nat.reduceMul, Nat.reduceLeDiff, Nat.reduceEqDiff, Nat.reduceBEq, Int.reduceToNat, Int.reduceAdd, Int32.reduceOfInt, Int64.reduceOfInt, Int32.reduceToNatClampNeg, Int32.reduceOfNat, Bool.or_self, Bool.or_false, Bool.false_or, Bool.true_or, Bool.or_true, true_and, and_true, false_and, and_false, List.set_cons_zero, List.set_cons_succ, List.take_succ_cons, List.take_zero, List.drop_succ_cons, List.drop_zero, List.reverse_cons, List.reverse_nil, List.nil_append, List.cons_append, List.length_cons, List.length_nil, Option.toList_some, Option.toList_none, not_true_eq_false, not_false_eq_true, forall_const, true_implies, false_implies, nrw, TTS, shM, shO, and01, bI_0, bI_and, isRl, cmpS, toLS, toL_le, toL_lt, i2lS, inM, Int64.reduceLE, Int64.reduceLT, xa_1, xa_2, xa_xa, upd_at, updU, linS, nI_add, nI_s2, clN, inN, inLS, Nat.reduceEqDiff, ↓reduceIte, not_true_eq_false, not_false_eq_true, and_true, true_and, and_false, false_and, and_self, or_true, true_or, or_false, false_or, ↓reduceIte, if_true, if_false, eq_self, hnb, hr0, pk_mul, pk_div, hi2, not_true_eq_false, not_false_eq_true, and_true, true_and, and_false, false_and, and_self, or_true, true_or, or_false, false_or, ↓reduceIte, if_true, if_false, eq_self]
    exact h

