theorem linS : (∀ x : Nat, (0 : Int32) + nI x = nI (0 + x)) ∧ (∀ x : Nat, nI x + (0 : Int32) = nI (x + 0)) ∧ (∀ x : Nat, (0 : Int32) * nI x = nI (0 * x)) ∧ (∀ x : Nat, nI x * (0 : Int32) = nI (x * 0)) ∧ (∀ x : Nat, (1 : Int32) + nI x = nI (1 + x)) ∧ (∀ x : Nat, nI x + (1 : Int32) = nI (x + 1)) ∧ (∀ x : Nat, (1 : Int32) * nI x = nI (1 * x)) ∧ (∀ x : Nat, nI x * (1 : Int32) = nI (x * 1)) ∧ (∀ x : Nat, (2 : Int32) + nI x = nI (2 + x)) ∧ (∀ x : Nat, nI x + (2 : Int32) = nI (x + 2)) ∧ (∀ x : Nat, (2 : Int32) * nI x = nI (2 * x)) ∧ (∀ x : Nat, nI x * (2 : Int32) = nI (x * 2)) ∧ (∀ x : Nat, (3 : Int32) + nI x = nI (3 + x)) ∧ (∀ x : Nat, nI x + (3 : Int32) = nI (x + 3)) ∧ (∀ x : Nat, (3 : Int32) * nI x = nI (3 * x)) ∧ (∀ x : Nat, nI x * (3 : Int32) = nI (x * 3)) ∧ (∀ x : Nat, (4 : Int32) + nI x = nI (4 + x)) ∧ (∀ x : Nat, nI x + (4 : Int32) = nI (x + 4)) ∧ (∀ x : Nat, (4 : Int32) * nI x = nI (4 * x)) ∧ (∀ x : Nat, nI x * (4 : Int32) = nI (x * 4)) ∧ (∀ x : Nat, (5 : Int32) + nI x = nI (5 + x)) ∧ (∀ x : Nat, nI x + (5 : Int32) = nI (x + 5)) ∧ (∀ x : Nat, (5 : Int32) * nI x = nI (5 * x)) ∧ (∀ x : Nat, nI x * (5 : Int32) = nI (x * 5)) ∧ (∀ x : Nat, (6 : Int32) + nI x = nI (6 + x)) ∧ (∀ x : Nat, nI x + (6 : Int32) = nI (x + 6)) ∧ (∀ x : Nat, (6 : Int32) * nI x = nI (6 * x)) ∧ (∀ x : Nat, nI x * (6 : Int32) = nI (x * 6)) ∧ (∀ x : Nat, (8 : Int32) + nI x = nI (8 + x)) ∧ (∀ x : Nat, nI x + (8 : Int32) = nI (x + 8)) ∧ (∀ x : Nat, (8 : Int32) * nI x = nI (8 * x)) ∧ (∀ x : Nat, nI x * (8 : Int32) = nI (x * 8)) ∧ (∀ x : Nat, (10 : Int32) + nI x = nI (10 + x)) ∧ (∀ x : Nat, nI x + (10 : Int32) = nI (x + 10)) ∧ (∀ x : Nat, (10 : Int32) * nI x = nI (10 * x)) ∧ (∀ x : Nat, nI x * (10 : Int32) = nI (x * 10)) ∧ (∀ x : Nat, (16 : Int32) + nI x = nI (16 + x)) ∧ (∀ x : Nat, nI x + (16 : Int32) = nI (x + 16)) ∧ (∀ x : Nat, (16 : Int32) * nI x = nI (16 * x)) ∧ (∀ x : Nat, nI x * (16 : Int32) = nI (x * 16)) ∧ (∀ x : Nat, (20 : Int32) + nI x = nI (20 + x)) ∧ (∀ x : Nat, nI x + (20 : Int32) = nI (x + 20)) ∧ (∀ x : Nat, (20 : Int32) * nI x = nI (20 * x)) ∧ (∀ x : Nat, nI x * (20 : Int32) = nI (x * 20)) ∧ (∀ x : Nat, (24 : Int32) + nI x = nI (24 + x)) ∧ (∀ x : Nat, nI x + (24 : Int32) = nI (x + 24)) ∧ (∀ x : Nat, (24 : Int32) * nI x = nI (24 * x)) ∧ (∀ x : Nat, nI x * (24 : Int32) = nI (x * 24)) ∧ (∀ x : Nat, (27 : Int32) + nI x = nI (27 + x)) ∧ (∀ x : Nat, nI x + (27 : Int32) = nI (x + 27)) ∧ (∀ x : Nat, (27 : Int32) * nI x = nI (27 * x)) ∧ (∀ x : Nat, nI x * (27 : Int32) = nI (x * 27)) ∧ (∀ x : Nat, (29 : Int32) + nI x = nI (29 + x)) ∧ (∀ x : Nat, nI x + (29 : Int32) = nI (x + 29)) ∧ (∀ x : Nat, (29 : Int32) * nI x = nI (29 * x)) ∧ (∀ x : Nat, nI x * (29 : Int32) = nI (x * 29)) ∧ (∀ x : Nat, (40 : Int32) + nI x = nI (40 + x)) ∧ (∀ x : Nat, nI x + (40 : Int32) = nI (x + 40)) ∧ (∀ x : Nat, (40 : Int32) * nI x = nI (40 * x)) ∧ (∀ x : Nat, nI x * (40 : Int32) = nI (x * 40)) ∧ (∀ x : Nat, (49 : Int32) + nI x = nI (49 + x)) ∧ (∀ x : Nat, nI x + (49 : Int32) = nI (x + 49)) ∧ (∀ x : Nat, (49 : Int32) * nI x = nI (49 * x)) ∧ (∀ x : Nat, nI x * (49 : Int32) = nI (x * 49)) ∧ (∀ x : Nat, (65 : Int32) + nI x = nI (65 + x)) ∧ (∀ x : Nat, nI x + (65 : Int32) = nI (x + 65)) ∧ (∀ x : Nat, (65 : Int32) * nI x = nI (65 * x)) ∧ (∀ x : Nat, nI x * (65 : Int32) = nI (x * 65)) := ⟨fun x => nI_add 0 x, fun x => nI_add x 0, fun x => pk_mul 0 x, fun x => pk_mul x 0, fun x => nI_add 1 x, fun x => nI_add x 1, fun x => pk_mul 1 x, fun x => pk_mul x 1, fun x => nI_add 2 x, fun x => nI_add x 2, fun x => pk_mul 2 x, fun x => pk_mul x 2, fun x => nI_add 3 x, fun x => nI_add x 3, fun x => pk_mul 3 x, fun x => pk_mul x 3, fun x => nI_add 4 x, fun x => nI_add x 4, fun x => pk_mul 4 x, fun x => pk_mul x 4, fun x => nI_add 5 x, fun x => nI_add x 5, fun x => pk_mul 5 x, fun x => pk_mul x 5, fun x => nI_add 6 x, fun x => nI_add x 6, fun x => pk_mul 6 x, fun x => pk_mul x 6, fun x => nI_add 8 x, fun x => nI_add x 8, fun x => pk_mul 8 x, fun x => pk_mul x 8, fun x => nI_add 10 x, fun x => nI_add x 10, fun x => pk_mul 10 x, fun x => pk_mul x 10, fun x => nI_add 16 x, fun x => nI_add x 16, fun x => pk_mul 16 x, fun x => pk_mul x 16, fun x => nI_add 20 x, fun x => nI_add x 20, fun x => pk_mul 20 x, fun x => pk_mul x 20, fun x => nI_add 24 x, fun x => nI_add x 24, fun x => pk_mul 24 x, fun x => pk_mul x 24, fun x => nI_add 27 x, fun x => nI_add x 27, fun x => pk_mul 27 x, fun x => pk_mul x 27, fun x => nI_add 29 x, fun x => nI_add x 29, fun x => pk_mul 29 x, fun x => pk_mul x 29, fun x => nI_add 40 x, fun x => nI_add x 40, fun x => pk_mul 40 x, fun x => pk_mul x 40, fun x => nI_add 49 x, fun x => nI_add x 49, fun x => pk_mul 49 x, fun x => pk_mul x 49, fun x => nI_add 65 x, fun x => nI_add x 65, fun x => pk_mul 65 x, fun x => pk_mul x 65⟩
theorem clN {e : Nat} (h : e < 2147483648) : (nI e).toNatClampNeg = e := nI_clamp h
theorem inN {e n : Nat} (h : e < n) (hn : n ≤ 1000) : vp_in (nI e) n = True := eq_true (vp_in_nI h (by omega))
theorem inLS : (∀ {n : Nat}, 0 < n → n ≤ 1000 → vp_in (0 : Int32) n = True) ∧ (∀ {n : Nat}, 1 < n → n ≤ 1000 → vp_in (1 : Int32) n = True) ∧ (∀ {n : Nat}, 2 < n → n ≤ 1000 → vp_in (2 : Int32) n = True) ∧ (∀ {n : Nat}, 3 < n → n ≤ 1000 → vp_in (3 : Int32) n = True) ∧ (∀ {n : Nat}, 4 < n → n ≤ 1000 → vp_in (4 : Int32) n = True) ∧ (∀ {n : Nat}, 5 < n → n ≤ 1000 → vp_in (5 : Int32) n = True) ∧ (∀ {n : Nat}, 6 < n → n ≤ 1000 → vp_in (6 : Int32) n = True) := ⟨fun h hn => eq_true (vp_in_nI (n := 0) h (by omega)), fun h hn => eq_true (vp_in_nI (n := 1) h (by omega)), fun h hn => eq_true (vp_in_nI (n := 2) h (by omega)), fun h hn => eq_true (vp_in_nI (n := 3) h (by omega)), fun h hn => eq_true (vp_in_nI (n := 4) h (by omega)), fun h hn => eq_true (vp_in_nI (n := 5) h (by omega)), fun h hn => eq_true (vp_in_nI (n := 6) h (by omega))⟩

def S174 (as : List Value) (m : xM) (Q : xQt) : Prop := match as with
  | [.ref o, .int a, .int w] => wp (fun _ _ _ _ => False) (fun _ => false) Q (some .int) (TT []) none i174 [.ref o, .int a, .int w] [] m
  | _ => False
theorem s174 (o : Nat) (a : Int32) (w : Int32) (m : xM) (Q : xQt) : S174 [.ref o, .int a, .int w] m Q = wp (fun _ _ _ _ => False) (fun _ => false) Q (some .int) (TT []) none i174 [.ref o, .int a, .int w] [] m := rfl
theorem t174 {G : xG} : ∀ as m Q, S174 as m Q → Tri G 174 as m Q := by
  intro as m Q h
  match as, h with
  | [.ref o, .int a, .int w], h => exact tri_wp (T := TT []) (ls := [.ref o, .int a, .int w]) TTn c174 (by decide +kernel) (rt0 := some .int) rfl rfl (Nat.le_of_ble_eq_true rfl) rfl h

def S186 (as : List Value) (m : xM) (Q : xQt) : Prop := match as with
  | [.ref o, .int a, .int w] => wp (fun _ _ _ _ => False) (fun _ => false) Q (some .int) (TT []) none i186 [.ref o, .int a, .int w] [] m
  | _ => False
theorem s186 (o : Nat) (a : Int32) (w : Int32) (m : xM) (Q : xQt) : S186 [.ref o, .int a, .int w] m Q = wp (fun _ _ _ _ => False) (fun _ => false) Q (some .int) (TT []) none i186 [.ref o, .int a, .int w] [] m := rfl
theorem t186 {G : xG} : ∀ as m Q, S186 as m Q → Tri G 186 as m Q := by
  intro as m Q h
  match as, h with
  | [.ref o, .int a, .int w], h => exact tri_wp (T := TT []) (ls := [.ref o, .int a, .int w]) TTn c186 (by decide +kernel) (rt0 := some .int) rfl rfl (Nat.le_of_ble_eq_true rfl) rfl h

def S173 (as : List Value) (m : xM) (Q : xQt) : Prop := match as with
  | [.ref r, .int a] => wp (fun _ _ _ _ => False) (fun _ => false) Q (some .boolean) (TT []) none i173 [.ref r, .int a] [] m
  | _ => False
theorem s173 (r : Nat) (a : Int32) (m : xM) (Q : xQt) : S173 [.ref r, .int a] m Q = wp (fun _ _ _ _ => False) (fun _ => false) Q (some .boolean) (TT []) none i173 [.ref r, .int a] [] m := rfl
theorem t173 {G : xG} : ∀ as m Q, S173 as m Q → Tri G 173 as m Q := by
  intro as m Q h
  match as, h with
  | [.ref r, .int a], h => exact tri_wp (T := TT []) (ls := [.ref r, .int a]) TTn c173 (by decide +kernel) (rt0 := some .boolean) rfl rfl (Nat.le_of_ble_eq_true rfl) rfl h

def S181 (as : List Value) (m : xM) (Q : xQt) : Prop := match as with
  | [.ref r, .int a] => wp (fun _ _ _ _ => False) (fun _ => false) Q (some .int) (TT []) none i181 [.ref r, .int a] [] m
  | _ => False
theorem s181 (r : Nat) (a : Int32) (m : xM) (Q : xQt) : S181 [.ref r, .int a] m Q = wp (fun _ _ _ _ => False) (fun _ => false) Q (some .int) (TT []) none i181 [.ref r, .int a] [] m := rfl
theorem t181 {G : xG} : ∀ as m Q, S181 as m Q → Tri G 181 as m Q := by
  intro as m Q h
  match as, h with
  | [.ref r, .int a], h => exact tri_wp (T := TT []) (ls := [.ref r, .int a]) TTn c181 (by decide +kernel) (rt0 := some .int) rfl rfl (Nat.le_of_ble_eq_true rfl) rfl h

def S180 (as : List Value) (m : xM) (Q : xQt) : Prop := match as with
  | [.ref o, .int a, .int b] => wp (fun _ _ _ _ => False) (fun _ => false) Q (some .boolean) (TT [(174, S174)]) none i180 [.ref o, .int a, .int b] [] m
  | _ => False
theorem s180 (o : Nat) (a : Int32) (b : Int32) (m : xM) (Q : xQt) : S180 [.ref o, .int a, .int b] m Q = wp (fun _ _ _ _ => False) (fun _ => false) Q (some .boolean) (TT [(174, S174)]) none i180 [.ref o, .int a, .int b] [] m := rfl
theorem t180 {G : xG} : ∀ as m Q, S180 as m Q → Tri G 180 as m Q := by
  intro as m Q h
  match as, h with
  | [.ref o, .int a, .int b], h => exact tri_wp (T := TT [(174, S174)]) (ls := [.ref o, .int a, .int b]) (TTc t174 TTn) c180 (by decide +kernel) (rt0 := some .boolean) rfl rfl (Nat.le_of_ble_eq_true rfl) rfl h

def S196 (as : List Value) (m : xM) (Q : xQt) : Prop := match as with
  | [.ref o, .int a] => wp (fun _ _ _ _ => False) (fun _ => false) Q (some .int) (TT [(174, S174)]) none i196 [.ref o, .int a, .null] [] m
  | _ => False
theorem s196 (o : Nat) (a : Int32) (m : xM) (Q : xQt) : S196 [.ref o, .int a] m Q = wp (fun _ _ _ _ => False) (fun _ => false) Q (some .int) (TT [(174, S174)]) none i196 [.ref o, .int a, .null] [] m := rfl
theorem t196 {G : xG} : ∀ as m Q, S196 as m Q → Tri G 196 as m Q := by
  intro as m Q h
  match as, h with
  | [.ref o, .int a], h => exact tri_wp (T := TT [(174, S174)]) (ls := [.ref o, .int a, .null]) (TTc t174 TTn) c196 (by decide +kernel) (rt0 := some .int) rfl rfl (Nat.le_of_ble_eq_true rfl) rfl h

/-- whether one of the first n is so -/
def anB (p : Nat → Bool) : Nat → Int32
  | 0 => 0
  | n + 1 => if anB p n = 0 then (if p n = true then 1 else 0) else 1
theorem anB_01 (p : Nat → Bool) : ∀ n, anB p n = 0 ∨ anB p n = 1
  | 0 => Or.inl rfl
  | n + 1 => by
    unfold anB
    split
    · split
      · exact Or.inr rfl
      · exact Or.inl rfl
    · exact Or.inr rfl
theorem anB_1 (p : Nat → Bool) (n : Nat) : anB p n &&& 1 = anB p n := by
  rcases anB_01 p n with h | h <;> rw [h] <;> decide
theorem anB_ex (p : Nat → Bool) : ∀ n, (anB p n = 0) ↔ ¬ ∃ h, h < n ∧ p h = true
  | 0 => by simp [anB]
  | n + 1 => by
    have ih := anB_ex p n
    unfold anB
    by_cases h0 : anB p n = 0
    · rw [if_pos h0]
      have h1 := ih.mp h0
      by_cases hp : p n = true
      · rw [if_pos hp]
        refine ⟨fun q => absurd q (by decide), fun q => absurd ⟨n, by omega, hp⟩ q⟩
      · rw [if_neg hp]
        refine ⟨fun _ ⟨h, h2, h3⟩ => ?_, fun _ => rfl⟩
        by_cases e : h = n
        · rw [e] at h3; exact hp h3
        · exact h1 ⟨h, by omega, h3⟩
    · rw [if_neg h0]
      refine ⟨fun q => absurd q (by decide), fun q => absurd (ih.mpr fun ⟨h, h2, h3⟩ => q ⟨h, by omega, h3⟩) h0⟩

def S187 (as : List Value) (m : xM) (Q : xQt) : Prop := match as with
  | [.ref o, .ref r, .int b] => (o = 86) ∧ (isR r) ∧ (m.1 90 4 ≤ 12) ∧ Q (some (.int (fd (fun h => if m.1 90 (29 + 3 * h + 0) = b ∧ m.1 r (24 + 2 * h) = 0 then m.1 90 (29 + 3 * h + 1) else 0) (ix (m.1 90 4))))) (m)
  | _ => False
theorem s187 (o : Nat) (r : Nat) (b : Int32) (m : xM) (Q : xQt) : S187 [.ref o, .ref r, .int b] m Q = ((o = 86) ∧ (isR r) ∧ (m.1 90 4 ≤ 12) ∧ Q (some (.int (fd (fun h => if m.1 90 (29 + 3 * h + 0) = b ∧ m.1 r (24 + 2 * h) = 0 then m.1 90 (29 + 3 * h + 1) else 0) (ix (m.1 90 4))))) (m)) := rfl
theorem t187 {G : xG} : ∀ as m Q, S187 as m Q → Tri G 187 as m Q := by
  intro as m Q h
  match as, h with
  | [.ref o, .ref r, .int b], h =>
    obtain ⟨rfl, hr, hn, h⟩ := h
    refine tri_vc (ls := [.ref 86, .ref r, .int b, .null, .null]) (by decide +kernel) rfl (Nat.le_of_ble_eq_true rfl) ?_
    refine vc_seq (pc1 := 5) (ls1 := [.ref 86, .ref r, .int b, .int 0, .int 0]) (m1 := m) (vc_wp (T := TT [(180, S180), (181, S181), (174, S174)]) (TTc t180 (TTc t181 (TTc t174 TTn))) (fun p => p == 5) (rt0 := some .int) rfl c187 rfl ?_) ?_
    · simp only [i187, wp_iinc, wpE0, wpE1, wpE2, wpE3, wpE4, wpE5, wpJ, okS, lt4S, popR, litS, Int32.reduceLT, Int32.reduceLE, List.getElem?_cons_zero, List.getElem?_cons_succ, Bool.false_eq_true, ↓reduceIte, Nat.reduceMod, Nat.reduceDiv, Nat.reduceAdd, Nat.reduceSub, Nat.reduceMul, Nat.reduceLeDiff, Nat.reduceEqDiff, Nat.reduceBEq, Int.reduceToNat, Int.reduceAdd, Int32.reduceOfInt, Int64.reduceOfInt, Int32.reduceToNatClampNeg, Int32.reduceOfNat, Bool.or_self, Bool.or_false, Bool.false_or, Bool.true_or, Bool.or_true, true_and, and_true, false_and, and_false, List.set_cons_zero, List.set_cons_succ, List.take_succ_cons, List.take_zero, List.drop_succ_cons, List.drop_zero, List.reverse_cons, List.reverse_nil, List.nil_append, List.cons_append, List.length_cons, List.length_nil, Option.toList_some, Option.toList_none, not_true_eq_false, not_false_eq_true, forall_const, true_implies, false_implies, nrw, TTS, s180, s181, s174, i180, i181, i174, shM, isRl, and01, bI_0, linS, nI_add, clN, inN, inLS, shR hr, hr, hn, subS, true_and, and_true, true_or, or_false]
    refine vc_for (ix (m.1 90 4)) (fun i => [.ref 86, .ref r, .int b, .int (fd (fun h => if m.1 90 (29 + 3 * h + 0) = b ∧ m.1 r (24 + 2 * h) = 0 then m.1 90 (29 + 3 * h + 1) else 0) i), .int (nI i)]) (fun _ => m) (fun i hi => ?_) ?_
    · refine vc_wp (T := TT [(180, S180), (181, S181), (174, S174)]) (TTc t180 (TTc t181 (TTc t174 TTn))) (fun _ => false) (rt0 := some .int) rfl (ckl_drop 4 c187) rfl ?_
      have hi2 : ¬ ix (m.1 90 4) ≤ i := by omega
      have hi12 : i < 12 := by have := ix_max (k := 12) hn (by decide); omega
      simp (disch := omega) only [List.drop, i187, wp_iinc, wpE0, wpE1, wpE2, wpE3, wpE4, wpE5, wpJ, okS, lt4S, popR, litS, Int32.reduceLT, Int32.reduceLE, List.getElem?_cons_zero, List.getElem?_cons_succ, Bool.false_eq_true, ↓reduceIte, Nat.reduceMod, Nat.reduceDiv, Nat.reduceAdd, Nat.reduceSub, Nat.reduceMul, Nat.reduceLeDiff, Nat.reduceEqDiff, Nat.reduceBEq, Int.reduceToNat, Int.reduceAdd, Int32.reduceOfInt, Int64.reduceOfInt, Int32.reduceToNatClampNeg, Int32.reduceOfNat, Bool.or_self, Bool.or_false, Bool.false_or, Bool.true_or, Bool.or_true, true_and, and_true, false_and, and_false, List.set_cons_zero, List.set_cons_succ, List.take_succ_cons, List.take_zero, List.drop_succ_cons, List.drop_zero, List.reverse_cons, List.reverse_nil, List.nil_append, List.cons_append, List.length_cons, List.length_nil, Option.toList_some, Option.toList_none, not_true_eq_false, not_false_eq_true, forall_const, true_implies, false_implies, nrw, TTS, s180, s181, s174, i180, i181, i174, shM, isRl, and01, bI_0, linS, nI_add, clN, inN, inLS, shR hr, hr, hn, subS, ix_le _ (show i < 2 ^ 31 by omega), hi2, not_true_eq_false, not_false_eq_true, and_true, true_and, and_false, false_and, and_self, or_true, true_or, or_false, false_or, ↓reduceIte, if_true, if_false, eq_self, nI_1, fd, anB]
      repeat' (first | apply And.intro | intro _)
      all_goals (simp only [*, not_true_eq_false, not_false_eq_true, and_true, true_and, and_false, false_and, and_self, or_true, true_or, or_false, false_or, ↓reduceIte, if_true, if_false, eq_self, Int32.add_zero]; done)
    · refine vc_wp (T := TT [(180, S180), (181, S181), (174, S174)]) (TTc t180 (TTc t181 (TTc t174 TTn))) (fun _ => false) (rt0 := some .int) rfl (ckl_drop 4 c187) rfl ?_
      have hi2 : ix (m.1 90 4) ≤ ix (m.1 90 4) := Nat.le_refl _
      have hi12 : ix (m.1 90 4) < 2 ^ 31 := by have := ix_max (k := 12) hn (by decide); omega
      simp (disch := omega) only [List.drop, i187, wp_iinc, wpE0, wpE1, wpE2, wpE3, wpE4, wpE5, wpJ, okS, lt4S, popR, litS, Int32.reduceLT, Int32.reduceLE, List.getElem?_cons_zero, List.getElem?_cons_succ, Bool.false_eq_true, ↓reduceIte, Nat.reduceMod, Nat.reduceDiv, Nat.reduceAdd, Nat.reduceSub, Nat.reduceMul, Nat.reduceLeDiff, Nat.reduceEqDiff, Nat.reduceBEq, Int.reduceToNat, Int.reduceAdd, Int32.reduceOfInt, Int64.reduceOfInt, Int32.reduceToNatClampNeg, Int32.reduceOfNat, Bool.or_self, Bool.or_false, Bool.false_or, Bool.true_or, Bool.or_true, true_and, and_true, false_and, and_false, List.set_cons_zero, List.set_cons_succ, List.take_succ_cons, List.take_zero, List.drop_succ_cons, List.drop_zero, List.reverse_cons, List.reverse_nil, List.nil_append, List.cons_append, List.length_cons, List.length_nil, Option.toList_some, Option.toList_none, not_true_eq_false, not_false_eq_true, forall_const, true_implies, false_implies, nrw, TTS, s180, s181, s174, i180, i181, i174, shM, isRl, and01, bI_0, linS, nI_add, clN, inN, inLS, shR hr, hr, hn, subS, ix_le _ hi12, hi2, not_true_eq_false, not_false_eq_true, and_true, true_and, and_false, false_and, and_self, or_true, true_or, or_false, false_or, ↓reduceIte, if_true, if_false, eq_self]
      exact h

def S188 (as : List Value) (m : xM) (Q : xQt) : Prop := match as with
  | [.ref o, .ref r, .int b] => (o = 86) ∧ (isR r) ∧ (m.1 90 4 ≤ 12) ∧ Q (some (.int (fd (fun h => if m.1 90 (29 + 3 * h + 0) = b ∧ m.1 r (24 + 2 * h) = 0 ∧ ¬ m.1 r (24 + 2 * h + 1) ≤ 0 then 1 else 0) (ix (m.1 90 4))))) (m)
  | _ => False
theorem s188 (o : Nat) (r : Nat) (b : Int32) (m : xM) (Q : xQt) : S188 [.ref o, .ref r, .int b] m Q = ((o = 86) ∧ (isR r) ∧ (m.1 90 4 ≤ 12) ∧ Q (some (.int (fd (fun h => if m.1 90 (29 + 3 * h + 0) = b ∧ m.1 r (24 + 2 * h) = 0 ∧ ¬ m.1 r (24 + 2 * h + 1) ≤ 0 then 1 else 0) (ix (m.1 90 4))))) (m)) := rfl
theorem t188 {G : xG} : ∀ as m Q, S188 as m Q → Tri G 188 as m Q := by
  intro as m Q h
  match as, h with
  | [.ref o, .ref r, .int b], h =>
    obtain ⟨rfl, hr, hn, h⟩ := h
    refine tri_vc (ls := [.ref 86, .ref r, .int b, .null, .null]) (by decide +kernel) rfl (Nat.le_of_ble_eq_true rfl) ?_
    refine vc_seq (pc1 := 5) (ls1 := [.ref 86, .ref r, .int b, .int 0, .int 0]) (m1 := m) (vc_wp (T := TT [(180, S180), (181, S181), (173, S173)]) (TTc t180 (TTc t181 (TTc t173 TTn))) (fun p => p == 5) (rt0 := some .int) rfl c188 rfl ?_) ?_
    · simp only [i188, wp_iinc, wpE0, wpE1, wpE2, wpE3, wpE4, wpE5, wpJ, okS, lt4S, popR, litS, Int32.reduceLT, Int32.reduceLE, List.getElem?_cons_zero, List.getElem?_cons_succ, Bool.false_eq_true, ↓reduceIte, Nat.reduceMod, Nat.reduceDiv, Nat.reduceAdd, Nat.reduceSub, Nat.reduceMul, Nat.reduceLeDiff, Nat.reduceEqDiff, Nat.reduceBEq, Int.reduceToNat, Int.reduceAdd, Int32.reduceOfInt, Int64.reduceOfInt, Int32.reduceToNatClampNeg, Int32.reduceOfNat, Bool.or_self, Bool.or_false, Bool.false_or, Bool.true_or, Bool.or_true, true_and, and_true, false_and, and_false, List.set_cons_zero, List.set_cons_succ, List.take_succ_cons, List.take_zero, List.drop_succ_cons, List.drop_zero, List.reverse_cons, List.reverse_nil, List.nil_append, List.cons_append, List.length_cons, List.length_nil, Option.toList_some, Option.toList_none, not_true_eq_false, not_false_eq_true, forall_const, true_implies, false_implies, nrw, TTS, s180, s181, s173, s174, i180, i181, i173, i174, shM, isRl, and01, bI_0, linS, nI_add, clN, inN, inLS, shR hr, hr, hn, subS, true_and, and_true, true_or, or_false]
    refine vc_for (ix (m.1 90 4)) (fun i => [.ref 86, .ref r, .int b, .int (fd (fun h => if m.1 90 (29 + 3 * h + 0) = b ∧ m.1 r (24 + 2 * h) = 0 ∧ ¬ m.1 r (24 + 2 * h + 1) ≤ 0 then 1 else 0) i), .int (nI i)]) (fun _ => m) (fun i hi => ?_) ?_
    · refine vc_wp (T := TT [(180, S180), (181, S181), (173, S173)]) (TTc t180 (TTc t181 (TTc t173 TTn))) (fun _ => false) (rt0 := some .int) rfl (ckl_drop 4 c188) rfl ?_
      have hi2 : ¬ ix (m.1 90 4) ≤ i := by omega
      have hi12 : i < 12 := by have := ix_max (k := 12) hn (by decide); omega
      simp (disch := omega) only [List.drop, i188, wp_iinc, wpE0, wpE1, wpE2, wpE3, wpE4, wpE5, wpJ, okS, lt4S, popR, litS, Int32.reduceLT, Int32.reduceLE, List.getElem?_cons_zero, List.getElem?_cons_succ, Bool.false_eq_true, ↓reduceIte, Nat.reduceMod, Nat.reduceDiv, Nat.reduceAdd, Nat.reduceSub, Nat.reduceMul, Nat.reduceLeDiff, Nat.reduceEqDiff, Nat.reduceBEq, Int.reduceToNat, Int.reduceAdd, Int32.reduceOfInt, Int64.reduceOfInt, Int32.reduceToNatClampNeg, Int32.reduceOfNat, Bool.or_self, Bool.or_false, Bool.false_or, Bool.true_or, Bool.or_true, true_and, and_true, false_and, and_false, List.set_cons_zero, List.set_cons_succ, List.take_succ_cons, List.take_zero, List.drop_succ_cons, List.drop_zero, List.reverse_cons, List.reverse_nil, List.nil_append, List.cons_append, List.length_cons, List.length_nil, Option.toList_some, Option.toList_none, not_true_eq_false, not_false_eq_true, forall_const, true_implies, false_implies, nrw, TTS, s180, s181, s173, s174, i180, i181, i173, i174, shM, isRl, and01, bI_0, linS, nI_add, clN, inN, inLS, shR hr, hr, hn, subS, ix_le _ (show i < 2 ^ 31 by omega), hi2, not_true_eq_false, not_false_eq_true, and_true, true_and, and_false, false_and, and_self, or_true, true_or, or_false, false_or, ↓reduceIte, if_true, if_false, eq_self, nI_1, fd, anB]
      repeat' (first | apply And.intro | intro _)
      all_goals (simp only [*, not_true_eq_false, not_false_eq_true, and_true, true_and, and_false, false_and, and_self, or_true, true_or, or_false, false_or, ↓reduceIte, if_true, if_false, eq_self, Int32.add_zero]; done)
    · refine vc_wp (T := TT [(180, S180), (181, S181), (173, S173)]) (TTc t180 (TTc t181 (TTc t173 TTn))) (fun _ => false) (rt0 := some .int) rfl (ckl_drop 4 c188) rfl ?_
      have hi2 : ix (m.1 90 4) ≤ ix (m.1 90 4) := Nat.le_refl _
      have hi12 : ix (m.1 90 4) < 2 ^ 31 := by have := ix_max (k := 12) hn (by decide); omega
      simp (disch := omega) only [List.drop, i188, wp_iinc, wpE0, wpE1, wpE2, wpE3, wpE4, wpE5, wpJ, okS, lt4S, popR, litS, Int32.reduceLT, Int32.reduceLE, List.getElem?_cons_zero, List.getElem?_cons_succ, Bool.false_eq_true, ↓reduceIte, Nat.reduceMod, Nat.reduceDiv, Nat.reduceAdd, Nat.reduceSub, Nat.reduceMul, Nat.reduceLeDiff, Nat.reduceEqDiff, Nat.reduceBEq, Int.reduceToNat, Int.reduceAdd, Int32.reduceOfInt, Int64.reduceOfInt, Int32.reduceToNatClampNeg, Int32.reduceOfNat, Bool.or_self, Bool.or_false, Bool.false_or, Bool.true_or, Bool.or_true, true_and, and_true, false_and, and_false, List.set_cons_zero, List.set_cons_succ, List.take_succ_cons, List.take_zero, List.drop_succ_cons, List.drop_zero, List.reverse_cons, List.reverse_nil, List.nil_append, List.cons_append, List.length_cons, List.length_nil, Option.toList_some, Option.toList_none, not_true_eq_false, not_false_eq_true, forall_const, true_implies, false_implies, nrw, TTS, s180, s181, s173, s174, i180, i181, i173, i174, shM, isRl, and01, bI_0, linS, nI_add, clN, inN, inLS, shR hr, hr, hn, subS, ix_le _ hi12, hi2, not_true_eq_false, not_false_eq_true, and_true, true_and, and_false, false_and, and_self, or_true, true_or, or_false, false_or, ↓reduceIte, if_true, if_false, eq_self]
      exact h

def S193 (as : List Value) (m : xM) (Q : xQt) : Prop := match as with
  | [.ref o, .ref r, .int b] => (o = 86) ∧ (isR r) ∧ (m.1 90 4 ≤ 12) ∧ (vp_in b 6) ∧ Q (some (.int (fd (fun h => if m.1 90 (29 + 3 * h + 0) = b ∧ m.1 r (24 + 2 * h) = 2 ∧ ¬ m.1 r (24 + 2 * h + 1) ≤ 0 then m.1 90 (29 + 3 * h + 1) else 0) (ix (m.1 90 4)) * m.1 90 (5 + 4 * ix b + 0) / 10))) (m)
  | _ => False
theorem s193 (o : Nat) (r : Nat) (b : Int32) (m : xM) (Q : xQt) : S193 [.ref o, .ref r, .int b] m Q = ((o = 86) ∧ (isR r) ∧ (m.1 90 4 ≤ 12) ∧ (vp_in b 6) ∧ Q (some (.int (fd (fun h => if m.1 90 (29 + 3 * h + 0) = b ∧ m.1 r (24 + 2 * h) = 2 ∧ ¬ m.1 r (24 + 2 * h + 1) ≤ 0 then m.1 90 (29 + 3 * h + 1) else 0) (ix (m.1 90 4)) * m.1 90 (5 + 4 * ix b + 0) / 10))) (m)) := rfl
theorem t193 {G : xG} : ∀ as m Q, S193 as m Q → Tri G 193 as m Q := by
  intro as m Q h
  match as, h with
  | [.ref o, .ref r, .int b], h =>
    obtain ⟨rfl, hr, hn, hb, h⟩ := h
    refine tri_vc (ls := [.ref 86, .ref r, .int b, .null, .null]) (by decide +kernel) rfl (Nat.le_of_ble_eq_true rfl) ?_
    refine vc_seq (pc1 := 5) (ls1 := [.ref 86, .ref r, .int b, .int 0, .int 0]) (m1 := m) (vc_wp (T := TT [(180, S180), (181, S181), (173, S173), (174, S174), (186, S186)]) (TTc t180 (TTc t181 (TTc t173 (TTc t174 (TTc t186 TTn))))) (fun p => p == 5) (rt0 := some .int) rfl c193 rfl ?_) ?_
    · simp only [i193, wp_iinc, wpE0, wpE1, wpE2, wpE3, wpE4, wpE5, wpJ, okS, lt4S, popR, litS, Int32.reduceLT, Int32.reduceLE, List.getElem?_cons_zero, List.getElem?_cons_succ, Bool.false_eq_true, ↓reduceIte, Nat.reduceMod, Nat.reduceDiv, Nat.reduceAdd, Nat.reduceSub, Nat.reduceMul, Nat.reduceLeDiff, Nat.reduceEqDiff, Nat.reduceBEq, Int.reduceToNat, Int.reduceAdd, Int32.reduceOfInt, Int64.reduceOfInt, Int32.reduceToNatClampNeg, Int32.reduceOfNat, Bool.or_self, Bool.or_false, Bool.false_or, Bool.true_or, Bool.or_true, true_and, and_true, false_and, and_false, List.set_cons_zero, List.set_cons_succ, List.take_succ_cons, List.take_zero, List.drop_succ_cons, List.drop_zero, List.reverse_cons, List.reverse_nil, List.nil_append, List.cons_append, List.length_cons, List.length_nil, Option.toList_some, Option.toList_none, not_true_eq_false, not_false_eq_true, forall_const, true_implies, false_implies, nrw, TTS, s180, s181, s173, s174, s186, i180, i181, i173, i174, i186, shM, isRl, and01, bI_0, linS, nI_add, clN, inN, inLS, shR hr, ne10, hr, hn, hb, subS, true_and, and_true, true_or, or_false]
    refine vc_for (ix (m.1 90 4)) (fun i => [.ref 86, .ref r, .int b, .int (fd (fun h => if m.1 90 (29 + 3 * h + 0) = b ∧ m.1 r (24 + 2 * h) = 2 ∧ ¬ m.1 r (24 + 2 * h + 1) ≤ 0 then m.1 90 (29 + 3 * h + 1) else 0) i), .int (nI i)]) (fun _ => m) (fun i hi => ?_) ?_
    · refine vc_wp (T := TT [(180, S180), (181, S181), (173, S173), (174, S174), (186, S186)]) (TTc t180 (TTc t181 (TTc t173 (TTc t174 (TTc t186 TTn))))) (fun _ => false) (rt0 := some .int) rfl (ckl_drop 4 c193) rfl ?_
      have hi2 : ¬ ix (m.1 90 4) ≤ i := by omega
      have hi12 : i < 12 := by have := ix_max (k := 12) hn (by decide); omega
      simp (disch := omega) only [List.drop, i193, wp_iinc, wpE0, wpE1, wpE2, wpE3, wpE4, wpE5, wpJ, okS, lt4S, popR, litS, Int32.reduceLT, Int32.reduceLE, List.getElem?_cons_zero, List.getElem?_cons_succ, Bool.false_eq_true, ↓reduceIte, Nat.reduceMod, Nat.reduceDiv, Nat.reduceAdd, Nat.reduceSub, Nat.reduceMul, Nat.reduceLeDiff, Nat.reduceEqDiff, Nat.reduceBEq, Int.reduceToNat, Int.reduceAdd, Int32.reduceOfInt, Int64.reduceOfInt, Int32.reduceToNatClampNeg, Int32.reduceOfNat, Bool.or_self, Bool.or_false, Bool.false_or, Bool.true_or, Bool.or_true, true_and, and_true, false_and, and_false, List.set_cons_zero, List.set_cons_succ, List.take_succ_cons, List.take_zero, List.drop_succ_cons, List.drop_zero, List.reverse_cons, List.reverse_nil, List.nil_append, List.cons_append, List.length_cons, List.length_nil, Option.toList_some, Option.toList_none, not_true_eq_false, not_false_eq_true, forall_const, true_implies, false_implies, nrw, TTS, s180, s181, s173, s174, s186, i180, i181, i173, i174, i186, shM, isRl, and01, bI_0, linS, nI_add, clN, inN, inLS, shR hr, ne10, hr, hn, hb, subS, ix_le _ (show i < 2 ^ 31 by omega), hi2, not_true_eq_false, not_false_eq_true, and_true, true_and, and_false, false_and, and_self, or_true, true_or, or_false, false_or, ↓reduceIte, if_true, if_false, eq_self, nI_1, fd, anB]
      repeat' (first | apply And.intro | intro _)
      all_goals (simp only [*, not_true_eq_false, not_false_eq_true, and_true, true_and, and_false, false_and, and_self, or_true, true_or, or_false, false_or, ↓reduceIte, if_true, if_false, eq_self, Int32.add_zero]; done)
    · refine vc_wp (T := TT [(180, S180), (181, S181), (173, S173), (174, S174), (186, S186)]) (TTc t180 (TTc t181 (TTc t173 (TTc t174 (TTc t186 TTn))))) (fun _ => false) (rt0 := some .int) rfl (ckl_drop 4 c193) rfl ?_
      have hi2 : ix (m.1 90 4) ≤ ix (m.1 90 4) := Nat.le_refl _
      have hi12 : ix (m.1 90 4) < 2 ^ 31 := by have := ix_max (k := 12) hn (by decide); omega
      obtain ⟨j, hj, rfl⟩ := vp_in_of hb (by decide)
      simp (disch := omega) only [clN] at h
      simp (disch := omega) only [List.drop, i193, wp_iinc, wpE0, wpE1, wpE2, wpE3, wpE4, wpE5, wpJ, okS, lt4S, popR, litS, Int32.reduceLT, Int32.reduceLE, List.getElem?_cons_zero, List.getElem?_cons_succ, Bool.false_eq_true, ↓reduceIte, Nat.reduceMod, Nat.reduceDiv, Nat.reduceAdd, Nat.reduceSub, Nat.reduceMul, Nat.reduceLeDiff, Nat.reduceEqDiff, Nat.reduceBEq, Int.reduceToNat, Int.reduceAdd, Int32.reduceOfInt, Int64.reduceOfInt, Int32.reduceToNatClampNeg, Int32.reduceOfNat, Bool.or_self, Bool.or_false, Bool.false_or, Bool.true_or, Bool.or_true, true_and, and_true, false_and, and_false, List.set_cons_zero, List.set_cons_succ, List.take_succ_cons, List.take_zero, List.drop_succ_cons, List.drop_zero, List.reverse_cons, List.reverse_nil, List.nil_append, List.cons_append, List.length_cons, List.length_nil, Option.toList_some, Option.toList_none, not_true_eq_false, not_false_eq_true, forall_const, true_implies, false_implies, nrw, TTS, s180, s181, s173, s174, s186, i180, i181, i173, i174, i186, shM, isRl, and01, bI_0, linS, nI_add, clN, inN, inLS, shR hr, ne10, hr, hn, hb, subS, ix_le _ hi12, hi2, not_true_eq_false, not_false_eq_true, and_true, true_and, and_false, false_and, and_self, or_true, true_or, or_false, false_or, ↓reduceIte, if_true, if_false, eq_self]
      exact h

def S191 (as : List Value) (m : xM) (Q : xQt) : Prop := match as with
  | [.ref o, .ref r, .int b] => (o = 86) ∧ (isR r) ∧ (m.1 90 4 ≤ 12) ∧ Q (some (.int (anB (fun h => decide (m.1 90 (29 + 3 * h + 0) = b ∧ m.1 r (24 + 2 * h) = 3 ∧ ¬ m.1 r (24 + 2 * h + 1) ≤ 0)) (ix (m.1 90 4))))) (m)
  | _ => False
theorem s191 (o : Nat) (r : Nat) (b : Int32) (m : xM) (Q : xQt) : S191 [.ref o, .ref r, .int b] m Q = ((o = 86) ∧ (isR r) ∧ (m.1 90 4 ≤ 12) ∧ Q (some (.int (anB (fun h => decide (m.1 90 (29 + 3 * h + 0) = b ∧ m.1 r (24 + 2 * h) = 3 ∧ ¬ m.1 r (24 + 2 * h + 1) ≤ 0)) (ix (m.1 90 4))))) (m)) := rfl
theorem t191 {G : xG} : ∀ as m Q, S191 as m Q → Tri G 191 as m Q := by
  intro as m Q h
  match as, h with
  | [.ref o, .ref r, .int b], h =>
    obtain ⟨rfl, hr, hn, h⟩ := h
    refine tri_vc (ls := [.ref 86, .ref r, .int b, .null, .null]) (by decide +kernel) rfl (Nat.le_of_ble_eq_true rfl) ?_
    refine vc_seq (pc1 := 5) (ls1 := [.ref 86, .ref r, .int b, .int 0, .int 0]) (m1 := m) (vc_wp (T := TT [(180, S180), (181, S181), (173, S173)]) (TTc t180 (TTc t181 (TTc t173 TTn))) (fun p => p == 5) (rt0 := some .boolean) rfl c191 rfl ?_) ?_
    · simp only [i191, wp_iinc, wpE0, wpE1, wpE2, wpE3, wpE4, wpE5, wpJ, okS, lt4S, popR, litS, Int32.reduceLT, Int32.reduceLE, List.getElem?_cons_zero, List.getElem?_cons_succ, Bool.false_eq_true, ↓reduceIte, Nat.reduceMod, Nat.reduceDiv, Nat.reduceAdd, Nat.reduceSub, Nat.reduceMul, Nat.reduceLeDiff, Nat.reduceEqDiff, Nat.reduceBEq, Int.reduceToNat, Int.reduceAdd, Int32.reduceOfInt, Int64.reduceOfInt, Int32.reduceToNatClampNeg, Int32.reduceOfNat, Bool.or_self, Bool.or_false, Bool.false_or, Bool.true_or, Bool.or_true, true_and, and_true, false_and, and_false, List.set_cons_zero, List.set_cons_succ, List.take_succ_cons, List.take_zero, List.drop_succ_cons, List.drop_zero, List.reverse_cons, List.reverse_nil, List.nil_append, List.cons_append, List.length_cons, List.length_nil, Option.toList_some, Option.toList_none, not_true_eq_false, not_false_eq_true, forall_const, true_implies, false_implies, nrw, TTS, s180, s181, s173, s174, i180, i181, i173, i174, shM, isRl, and01, bI_0, linS, nI_add, clN, inN, inLS, shR hr, decide_eq_true_eq, hr, hn, subS, true_and, and_true, true_or, or_false]
    refine vc_for (ix (m.1 90 4)) (fun i => [.ref 86, .ref r, .int b, .int (anB (fun h => decide (m.1 90 (29 + 3 * h + 0) = b ∧ m.1 r (24 + 2 * h) = 3 ∧ ¬ m.1 r (24 + 2 * h + 1) ≤ 0)) i), .int (nI i)]) (fun _ => m) (fun i hi => ?_) ?_
    · refine vc_wp (T := TT [(180, S180), (181, S181), (173, S173)]) (TTc t180 (TTc t181 (TTc t173 TTn))) (fun _ => false) (rt0 := some .boolean) rfl (ckl_drop 4 c191) rfl ?_
      have hi2 : ¬ ix (m.1 90 4) ≤ i := by omega
      have hi12 : i < 12 := by have := ix_max (k := 12) hn (by decide); omega
      simp (disch := omega) only [List.drop, i191, wp_iinc, wpE0, wpE1, wpE2, wpE3, wpE4, wpE5, wpJ, okS, lt4S, popR, litS, Int32.reduceLT, Int32.reduceLE, List.getElem?_cons_zero, List.getElem?_cons_succ, Bool.false_eq_true, ↓reduceIte, Nat.reduceMod, Nat.reduceDiv, Nat.reduceAdd, Nat.reduceSub, Nat.reduceMul, Nat.reduceLeDiff, Nat.reduceEqDiff, Nat.reduceBEq, Int.reduceToNat, Int.reduceAdd, Int32.reduceOfInt, Int64.reduceOfInt, Int32.reduceToNatClampNeg, Int32.reduceOfNat, Bool.or_self, Bool.or_false, Bool.false_or, Bool.true_or, Bool.or_true, true_and, and_true, false_and, and_false, List.set_cons_zero, List.set_cons_succ, List.take_succ_cons, List.take_zero, List.drop_succ_cons, List.drop_zero, List.reverse_cons, List.reverse_nil, List.nil_append, List.cons_append, List.length_cons, List.length_nil, Option.toList_some, Option.toList_none, not_true_eq_false, not_false_eq_true, forall_const, true_implies, false_implies, nrw, TTS, s180, s181, s173, s174, i180, i181, i173, i174, shM, isRl, and01, bI_0, linS, nI_add, clN, inN, inLS, shR hr, decide_eq_true_eq, hr, hn, subS, ix_le _ (show i < 2 ^ 31 by omega), hi2, not_true_eq_false, not_false_eq_true, and_true, true_and, and_false, false_and, and_self, or_true, true_or, or_false, false_or, ↓reduceIte, if_true, if_false, eq_self, nI_1, fd, anB]
      repeat' (first | apply And.intro | intro _)
      all_goals (simp only [*, not_true_eq_false, not_false_eq_true, and_true, true_and, and_false, false_and, and_self, or_true, true_or, or_false, false_or, ↓reduceIte, if_true, if_false, eq_self]; done)
    · refine vc_wp (T := TT [(180, S180), (181, S181), (173, S173)]) (TTc t180 (TTc t181 (TTc t173 TTn))) (fun _ => false) (rt0 := some .boolean) rfl (ckl_drop 4 c191) rfl ?_
      have hi2 : ix (m.1 90 4) ≤ ix (m.1 90 4) := Nat.le_refl _
      have hi12 : ix (m.1 90 4) < 2 ^ 31 := by have := ix_max (k := 12) hn (by decide); omega
      simp (disch := omega) only [List.drop, i191, wp_iinc, wpE0, wpE1, wpE2, wpE3, wpE4, wpE5, wpJ, okS, lt4S, popR, litS, Int32.reduceLT, Int32.reduceLE, List.getElem?_cons_zero, List.getElem?_cons_succ, Bool.false_eq_true, ↓reduceIte, Nat.reduceMod, Nat.reduceDiv, Nat.reduceAdd, Nat.reduceSub, Nat.reduceMul, Nat.reduceLeDiff, Nat.reduceEqDiff, Nat.reduceBEq, Int.reduceToNat, Int.reduceAdd, Int32.reduceOfInt, Int64.reduceOfInt, Int32.reduceToNatClampNeg, Int32.reduceOfNat, Bool.or_self, Bool.or_false, Bool.false_or, Bool.true_or, Bool.or_true, true_and, and_true, false_and, and_false, List.set_cons_zero, List.set_cons_succ, List.take_succ_cons, List.take_zero, List.drop_succ_cons, List.drop_zero, List.reverse_cons, List.reverse_nil, List.nil_append, List.cons_append, List.length_cons, List.length_nil, Option.toList_some, Option.toList_none, not_true_eq_false, not_false_eq_true, forall_const, true_implies, false_implies, nrw, TTS, s180, s181, s173, s174, i180, i181, i173, i174, shM, isRl, and01, bI_0, linS, nI_add, clN, inN, inLS, shR hr, decide_eq_true_eq, hr, hn, subS, ix_le _ hi12, hi2, not_true_eq_false, not_false_eq_true, and_true, true_and, and_false, false_and, and_self, or_true, true_or, or_false, false_or, ↓reduceIte, if_true, if_false, eq_self]
      exact ⟨anB_1 _ _, h⟩
