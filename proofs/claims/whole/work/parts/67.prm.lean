def hyb (n : Nat) (f : Nat → Nat) (k j t i : Nat) : Nat := if (k + 1 ≤ i ∧ i < k + 1 + t) ∨ (n - 1 - t < i ∧ i ≤ n - 1) then swp f k j (n + k - i) else swp f k j i
theorem hyb_0 {n k j i : Nat} {f : Nat → Nat} (hi : i < n) : hyb n f k j 0 i = swp f k j i := if_neg (by omega)
theorem hyb_end {n k j i : Nat} {f : Nat → Nat} (hkj : k < j) (hjn : j < n) (hi : i < n) : hyb n f k j ((n - 1 - k) / 2) i = nxG n f k j i := by
  unfold hyb nxG
  by_cases z1 : i < k
  · rw [if_pos z1, if_neg (by omega), swp_o (by omega) (by omega)]
  · rw [if_neg z1]
    by_cases z2 : i = k
    · rw [if_pos z2, if_neg (by omega), z2, swp_j]
    · rw [if_neg z2]
      have key : swp f k j (n + k - i) = (if n + k - i = j then f k else f (n + k - i)) := by
        by_cases z3 : n + k - i = j
        · rw [if_pos z3, z3, swp_k hkj]
        · rw [if_neg z3, swp_o (by omega) z3]
      by_cases z4 : (k + 1 ≤ i ∧ i < k + 1 + (n - 1 - k) / 2) ∨ (n - 1 - (n - 1 - k) / 2 < i ∧ i ≤ n - 1)
      · rw [if_pos z4, key]
      · rw [if_neg z4, ← key]
        congr 1
        omega
theorem hyb_s {n k j t i : Nat} {f : Nat → Nat} {F : Nat → Int32} (hkn : k + 1 < n) (ht : t < (n - 1 - k) / 2) (hF : ∀ i, i < n → F i = nI (hyb n f k j t i)) (hi : i < n) : upd (upd F (k + 1 + t) (F (n - 1 - t))) (n - 1 - t) (F (k + 1 + t)) i = nI (hyb n f k j (t + 1) i) := by
  by_cases z1 : i = n - 1 - t
  · rw [upd_eq z1, hF _ (by omega)]
    congr 1
    unfold hyb
    rw [if_neg (by omega), if_pos (by omega)]
    congr 1
    omega
  · rw [upd_ne z1]
    by_cases z2 : i = k + 1 + t
    · rw [upd_eq z2, hF _ (by omega)]
      congr 1
      unfold hyb
      rw [if_neg (by omega), if_pos (by omega)]
      congr 1
      omega
    · rw [upd_ne z2, hF i hi]
      congr 1
      unfold hyb
      by_cases z3 : (k + 1 ≤ i ∧ i < k + 1 + t) ∨ (n - 1 - t < i ∧ i ≤ n - 1)
      · rw [if_pos z3, if_pos (by omega)]
      · rw [if_neg z3, if_neg (by omega)]
theorem nI_d {a b : Nat} (h : b ≤ a) : nI a - nI b = nI (a - b) := nI_sub h

def S213 (as : List Value) (m : xM) (Q : xQt) : Prop := match as with
  | [.ref o, .int a, .int a2] => wp (fun _ _ _ _ => False) (fun _ => false) Q (none) (TT []) none i213 [.ref o, .int a, .int a2, .null] [] m
  | _ => False
theorem s213 (o : Nat) (a : Int32) (a2 : Int32) (m : xM) (Q : xQt) : S213 [.ref o, .int a, .int a2] m Q = wp (fun _ _ _ _ => False) (fun _ => false) Q (none) (TT []) none i213 [.ref o, .int a, .int a2, .null] [] m := rfl
theorem t213 {G : xG} : ∀ as m Q, S213 as m Q → Tri G 213 as m Q := by
  intro as m Q h
  match as, h with
  | [.ref o, .int a, .int a2], h => exact tri_wp (T := TT []) (ls := [.ref o, .int a, .int a2, .null]) TTn c213 (by decide +kernel) (rt0 := none) rfl rfl (Nat.le_of_ble_eq_true rfl) rfl h

theorem t212x {G : xG} {m : xM} {Q : xQt} {n : Nat} {f : Nat → Nat} (hn : 1 ≤ n ∧ n ≤ 6) (hf0 : pm n f) (hm : ∀ i, i < n → m.1 95 i = nI (f i)) (h0 : (∀ i, i + 1 < n → f (i + 1) < f i) → Q (some (.int 0)) m) (h1' : ∀ k j F, nxP n f k j → (∀ i, i < n → F i = nI (nxG n f k j i)) → Q (some (.int 1)) (xa m 95 F)) : Tri G 212 [.ref 86, .int (nI n)] m Q := by
  refine tri_vc (ls := [.ref 86, .int (nI n), .null, .null, .null, .null]) (by decide +kernel) rfl (Nat.le_of_ble_eq_true rfl) ?_
  have hd : ∀ t, t < n - 1 → (∀ u, u < t → f (n - 2 - u + 1) < f (n - 2 - u)) → ∀ b a, n - 2 - t < a → a < b → b < n → f b < f a := by
    intro t ht hu b
    induction b with
    | zero => intro a h1 h2; omega
    | succ b ih =>
      intro a h1 h2 h3
      have h4 := hu (n - 2 - b) (by omega)
      rw [show n - 2 - (n - 2 - b) = b by omega] at h4
      by_cases z : a = b
      · rw [z]; exact h4
      · have := ih a h1 (by omega) (by omega); omega
  refine vc_seq (pc1 := 4) (ls1 := [.ref 86, .int (nI n), .int (nI n - nI (2)), .null, .null, .null]) (m1 := m) (vc_wp (T := TT [(213, S213)]) (TTc t213 TTn) (fun p => p == 4) (rt0 := some .boolean) rfl c212 rfl ?_) ?_
  · simp (disch := omega) only [i212, wp_iinc, wpE0, wpE1, wpE2, wpE3, wpE4, wpE5, wpJ, okS, lt4S, popR, litS, Int32.reduceLT, Int32.reduceLE, List.getElem?_cons_zero, List.getElem?_cons_succ, Bool.false_eq_true, ↓reduceIte, Nat.reduceMod, Nat.reduceDiv, Nat.reduceAdd, Nat.reduceSub, Nat.reduceMul, Nat.reduceLeDiff, Nat.reduceEqDiff, Nat.reduceBEq, Int.reduceToNat, Int.reduceAdd, Int32.reduceOfInt, Int64.reduceOfInt, Int32.reduceToNatClampNeg, Int32.reduceOfNat, Bool.or_self, Bool.or_false, Bool.false_or, Bool.true_or, Bool.or_true, true_and, and_true, false_and, and_false, List.set_cons_zero, List.set_cons_succ, List.take_succ_cons, List.take_zero, List.drop_succ_cons, List.drop_zero, List.reverse_cons, List.reverse_nil, List.nil_append, List.cons_append, List.length_cons, List.length_nil, Option.toList_some, Option.toList_none, not_true_eq_false, not_false_eq_true, forall_const, true_implies, false_implies, nrw, TTS, s213, i213, shM, shO, and01, bI_0, bI_and, isRl, cmpS, toLS, toL_le, toL_lt, i2lS, inM, Int64.reduceLE, Int64.reduceLT, xa_1, xa_2, xa_xa, upd_at, updU, linS, nI_add, nI_s2, clN, inN, inLS, Nat.reduceEqDiff, ↓reduceIte, not_true_eq_false, not_false_eq_true, and_true, true_and, and_false, false_and, and_self, or_true, true_or, or_false, false_or, ↓reduceIte, if_true, if_false, eq_self, subS, show nI 2 = (2 : Int32) from rfl, not_true_eq_false, not_false_eq_true, and_true, true_and, and_false, false_and, and_self, or_true, true_or, or_false, false_or, ↓reduceIte, if_true, if_false, eq_self]
  refine vc_find (n - 1) (fun t => [.ref 86, .int (nI n), .int (nI n - nI (2 + t)), .null, .null, .null]) m (fun t => ¬ f (n - 2 - t + 1) < f (n - 2 - t)) (fun t ht hp hfi => ?_) (fun t ht hp => ?_) (fun hfi hk => ?_)
  · have hbef : ∀ u, u < t → f (n - 2 - u + 1) < f (n - 2 - u) := by
      rcases fi_spec (fun t => ¬ f (n - 2 - t + 1) < f (n - 2 - t)) (n - 1) with ⟨q1, _⟩ | ⟨_, _, q3⟩
      · omega
      · intro u hu
        exact Classical.not_not.mp (q3 u (by omega))
    have hdes0 := hd t ht hbef
    obtain ⟨k, hkd⟩ : ∃ k, k = n - 2 - t := ⟨_, rfl⟩
    have hkI : nI n - nI (2 + t) = nI k := by rw [nI_sub (by omega)]; congr 1; omega
    rw [← hkd] at hp hdes0
    have hkn : k + 1 < n := by omega
    have hdes : ∀ a b, k < a → a < b → b < n → f b < f a := fun a b => hdes0 b a
    have hle : nI (f k) ≤ nI (f (k + 1)) := nI_le (by omega) (by have := hf0.1 (k + 1) hkn; omega)
    have hk1 : nI n - 1 = nI (n - 1) := nI_sub (b := 1) (by omega)
    have hkp : ¬ nI k < 0 := nI_pos (by omega)
    have hkp2 : 0 ≤ nI k := nI_pos' (by omega)
    refine vc_seq (pc1 := 41) (ls1 := [.ref 86, .int (nI n), .int (nI k), .int (nI (n - 1)), .null, .null]) (m1 := m) (vc_wp (T := TT [(213, S213)]) (TTc t213 TTn) (fun p => p == 41) (rt0 := some .boolean) rfl (ckl_drop 4 c212) rfl ?_) ?_
    · simp (disch := omega) only [List.drop, i212, wp_iinc, wpE0, wpE1, wpE2, wpE3, wpE4, wpE5, wpJ, okS, lt4S, popR, litS, Int32.reduceLT, Int32.reduceLE, List.getElem?_cons_zero, List.getElem?_cons_succ, Bool.false_eq_true, ↓reduceIte, Nat.reduceMod, Nat.reduceDiv, Nat.reduceAdd, Nat.reduceSub, Nat.reduceMul, Nat.reduceLeDiff, Nat.reduceEqDiff, Nat.reduceBEq, Int.reduceToNat, Int.reduceAdd, Int32.reduceOfInt, Int64.reduceOfInt, Int32.reduceToNatClampNeg, Int32.reduceOfNat, Bool.or_self, Bool.or_false, Bool.false_or, Bool.true_or, Bool.or_true, true_and, and_true, false_and, and_false, List.set_cons_zero, List.set_cons_succ, List.take_succ_cons, List.take_zero, List.drop_succ_cons, List.drop_zero, List.reverse_cons, List.reverse_nil, List.nil_append, List.cons_append, List.length_cons, List.length_nil, Option.toList_some, Option.toList_none, not_true_eq_false, not_false_eq_true, forall_const, true_implies, false_implies, nrw, TTS, s213, i213, shM, shO, and01, bI_0, bI_and, isRl, cmpS, toLS, toL_le, toL_lt, i2lS, inM, Int64.reduceLE, Int64.reduceLT, xa_1, xa_2, xa_xa, upd_at, updU, linS, nI_add, nI_s2, clN, inN, inLS, Nat.reduceEqDiff, ↓reduceIte, not_true_eq_false, not_false_eq_true, and_true, true_and, and_false, false_and, and_self, or_true, true_or, or_false, false_or, ↓reduceIte, if_true, if_false, eq_self, subS, hkI, hm k (by omega), hm (k + 1) hkn, hle, hk1, hkp, hkp2, nI_1, not_true_eq_false, not_false_eq_true, and_true, true_and, and_false, false_and, and_self, or_true, true_or, or_false, false_or, ↓reduceIte, if_true, if_false, eq_self]
    refine vc_find (n - 1 - k) (fun t => [.ref 86, .int (nI n), .int (nI k), .int (nI (n - 1 - t)), .null, .null]) m (fun t => ¬ f (n - 1 - t) < f k) (fun t ht hp hf => ?_) (fun t ht hp => ?_) (fun hf hk => ?_)
    · obtain ⟨j, hj⟩ : ∃ j, j = n - 1 - t := ⟨_, rfl⟩
      rw [← hj] at hp ⊢
      have hkj : k < j := by omega
      have hjn : j < n := by omega
      have hnx : nxP n f k j := by
        refine ⟨hkn, hkj, hjn, hdes, ?_, fun i h1 h2 => ?_⟩
        · have : f k ≠ f j := fun z => by have := hf0.2 k j (by omega) hjn z; omega
          omega
        · have hfs := fi_spec (fun t => ¬ f (n - 1 - t) < f k) (n - 1 - k)
          rcases hfs with ⟨q1, _⟩ | ⟨_, _, q3⟩
          · omega
          · have := q3 (n - 1 - i) (by omega)
            rw [show n - 1 - (n - 1 - i) = i by omega] at this
            exact Classical.not_not.mp this
      have hloop3 : ∀ F0 : Nat → Int32, (∀ i, i < n → F0 i = nI (hyb n f k j 0 i)) → VC G 212 Q (fun _ _ _ _ => False) 78 [.ref 86, .int (nI n), .int (nI k), .int (nI j), .int (nI (n - 1)), .int (nI (k + 1))] [] (xa m 95 F0) := by
        intro F0 hF0
        refine vc_forP ((n - 1 - k) / 2) (fun t => [.ref 86, .int (nI n), .int (nI k), .int (nI j), .int (nI (n - 1 - t)), .int (nI (k + 1 + t))]) (fun t m' => ∃ F, m' = xa m 95 F ∧ ∀ i, i < n → F i = nI (hyb n f k j t i)) (fun t m' ht hp => ?_) (fun m' hp => ?_) ⟨F0, rfl, hF0⟩
        · obtain ⟨F, rfl, hF⟩ := hp
          refine vc_wp (T := TT [(213, S213)]) (TTc t213 TTn) (fun _ => false) (rt0 := some .boolean) rfl (ckl_drop 50 c212) rfl ?_
          have h1 : ¬ nI (n - 1 - t) ≤ nI (k + 1 + t) := nI_ge (by omega) (by omega)
          have h2 : nI (n - 1 - t) + -1 = nI (n - 1 - (t + 1)) := by
            obtain ⟨q, hq⟩ : ∃ q, n - 1 - t = q + 1 := ⟨n - 1 - t - 1, by omega⟩
            rw [hq, pk_m1, show n - 1 - (t + 1) = q by omega]
          simp (disch := omega) only [List.drop, i212, wp_iinc, wpE0, wpE1, wpE2, wpE3, wpE4, wpE5, wpJ, okS, lt4S, popR, litS, Int32.reduceLT, Int32.reduceLE, List.getElem?_cons_zero, List.getElem?_cons_succ, Bool.false_eq_true, ↓reduceIte, Nat.reduceMod, Nat.reduceDiv, Nat.reduceAdd, Nat.reduceSub, Nat.reduceMul, Nat.reduceLeDiff, Nat.reduceEqDiff, Nat.reduceBEq, Int.reduceToNat, Int.reduceAdd, Int32.reduceOfInt, Int64.reduceOfInt, Int32.reduceToNatClampNeg, Int32.reduceOfNat, Bool.or_self, Bool.or_false, Bool.false_or, Bool.true_or, Bool.or_true, true_and, and_true, false_and, and_false, List.set_cons_zero, List.set_cons_succ, List.take_succ_cons, List.take_zero, List.drop_succ_cons, List.drop_zero, List.reverse_cons, List.reverse_nil, List.nil_append, List.cons_append, List.length_cons, List.length_nil, Option.toList_some, Option.toList_none, not_true_eq_false, not_false_eq_true, forall_const, true_implies, false_implies, nrw, TTS, s213, i213, shM, shO, and01, bI_0, bI_and, isRl, cmpS, toLS, toL_le, toL_lt, i2lS, inM, Int64.reduceLE, Int64.reduceLT, xa_1, xa_2, xa_xa, upd_at, updU, linS, nI_add, nI_s2, clN, inN, inLS, Nat.reduceEqDiff, ↓reduceIte, not_true_eq_false, not_false_eq_true, and_true, true_and, and_false, false_and, and_self, or_true, true_or, or_false, false_or, ↓reduceIte, if_true, if_false, eq_self, subS, h1, h2, nI_1, not_true_eq_false, not_false_eq_true, and_true, true_and, and_false, false_and, and_self, or_true, true_or, or_false, false_or, ↓reduceIte, if_true, if_false, eq_self]
          exact ⟨rfl, _, rfl, fun i hi => hyb_s hkn ht hF hi⟩
        · obtain ⟨F, rfl, hF⟩ := hp
          refine vc_wp (T := TT [(213, S213)]) (TTc t213 TTn) (fun _ => false) (rt0 := some .boolean) rfl (ckl_drop 50 c212) rfl ?_
          have h1 : nI (n - 1 - (n - 1 - k) / 2) ≤ nI (k + 1 + (n - 1 - k) / 2) := nI_le (by omega) (by omega)
          simp (disch := omega) only [List.drop, i212, wp_iinc, wpE0, wpE1, wpE2, wpE3, wpE4, wpE5, wpJ, okS, lt4S, popR, litS, Int32.reduceLT, Int32.reduceLE, List.getElem?_cons_zero, List.getElem?_cons_succ, Bool.false_eq_true, ↓reduceIte, Nat.reduceMod, Nat.reduceDiv, Nat.reduceAdd, Nat.reduceSub, Nat.reduceMul, Nat.reduceLeDiff, Nat.reduceEqDiff, Nat.reduceBEq, Int.reduceToNat, Int.reduceAdd, Int32.reduceOfInt, Int64.reduceOfInt, Int32.reduceToNatClampNeg, Int32.reduceOfNat, Bool.or_self, Bool.or_false, Bool.false_or, Bool.true_or, Bool.or_true, true_and, and_true, false_and, and_false, List.set_cons_zero, List.set_cons_succ, List.take_succ_cons, List.take_zero, List.drop_succ_cons, List.drop_zero, List.reverse_cons, List.reverse_nil, List.nil_append, List.cons_append, List.length_cons, List.length_nil, Option.toList_some, Option.toList_none, not_true_eq_false, not_false_eq_true, forall_const, true_implies, false_implies, nrw, TTS, s213, i213, shM, shO, and01, bI_0, bI_and, isRl, cmpS, toLS, toL_le, toL_lt, i2lS, inM, Int64.reduceLE, Int64.reduceLT, xa_1, xa_2, xa_xa, upd_at, updU, linS, nI_add, nI_s2, clN, inN, inLS, Nat.reduceEqDiff, ↓reduceIte, not_true_eq_false, not_false_eq_true, and_true, true_and, and_false, false_and, and_self, or_true, true_or, or_false, false_or, ↓reduceIte, if_true, if_false, eq_self, h1, litS, not_true_eq_false, not_false_eq_true, and_true, true_and, and_false, false_and, and_self, or_true, true_or, or_false, false_or, ↓reduceIte, if_true, if_false, eq_self]
          exact h1' k j F hnx (fun i hi => by rw [hF i hi, hyb_end hkj hjn hi])
      have hk1 : nI n - 1 = nI (n - 1) := nI_sub (b := 1) (by omega)
      have hge : nI (f k) ≤ nI (f j) := nI_le (by omega) (by have := hf0.1 j hjn; omega)
      refine vc_seq (pc1 := 78) (ls1 := [.ref 86, .int (nI n), .int (nI k), .int (nI j), .int (nI (n - 1)), .int (nI (k + 1))]) (m1 := xa m 95 (upd (upd (m.1 95) k (m.1 95 j)) j (m.1 95 k))) (vc_wp (T := TT [(213, S213)]) (TTc t213 TTn) (fun p => p == 78) (rt0 := some .boolean) rfl (ckl_drop 27 c212) rfl ?_) (hloop3 _ (fun i hi => ?_))
      · simp (disch := omega) only [List.drop, i212, wp_iinc, wpE0, wpE1, wpE2, wpE3, wpE4, wpE5, wpJ, okS, lt4S, popR, litS, Int32.reduceLT, Int32.reduceLE, List.getElem?_cons_zero, List.getElem?_cons_succ, Bool.false_eq_true, ↓reduceIte, Nat.reduceMod, Nat.reduceDiv, Nat.reduceAdd, Nat.reduceSub, Nat.reduceMul, Nat.reduceLeDiff, Nat.reduceEqDiff, Nat.reduceBEq, Int.reduceToNat, Int.reduceAdd, Int32.reduceOfInt, Int64.reduceOfInt, Int32.reduceToNatClampNeg, Int32.reduceOfNat, Bool.or_self, Bool.or_false, Bool.false_or, Bool.true_or, Bool.or_true, true_and, and_true, false_and, and_false, List.set_cons_zero, List.set_cons_succ, List.take_succ_cons, List.take_zero, List.drop_succ_cons, List.drop_zero, List.reverse_cons, List.reverse_nil, List.nil_append, List.cons_append, List.length_cons, List.length_nil, Option.toList_some, Option.toList_none, not_true_eq_false, not_false_eq_true, forall_const, true_implies, false_implies, nrw, TTS, s213, i213, shM, shO, and01, bI_0, bI_and, isRl, cmpS, toLS, toL_le, toL_lt, i2lS, inM, Int64.reduceLE, Int64.reduceLT, xa_1, xa_2, xa_xa, upd_at, updU, linS, nI_add, nI_s2, clN, inN, inLS, Nat.reduceEqDiff, ↓reduceIte, not_true_eq_false, not_false_eq_true, and_true, true_and, and_false, false_and, and_self, or_true, true_or, or_false, false_or, ↓reduceIte, if_true, if_false, eq_self, subS, hm k (by omega), hm j hjn, hge, hk1, nI_1, not_true_eq_false, not_false_eq_true, and_true, true_and, and_false, false_and, and_self, or_true, true_or, or_false, false_or, ↓reduceIte, if_true, if_false, eq_self]
      · rw [hyb_0 hi]
        by_cases z1 : i = j
        · rw [upd_eq z1, z1, swp_k hkj, hm k (by omega)]
        · rw [upd_ne z1]
          by_cases z2 : i = k
          · rw [upd_eq z2, z2, swp_j, hm j hjn]
          · rw [upd_ne z2, swp_o z2 z1, hm i hi]
    · refine vc_wp (T := TT [(213, S213)]) (TTc t213 TTn) (fun _ => false) (rt0 := some .boolean) rfl (ckl_drop 27 c212) rfl ?_
      have hp2 := Classical.not_not.mp hp
      have hlt : ¬ nI (f k) ≤ nI (f (n - 1 - t)) := nI_ge hp2 (by have := hf0.1 k (by omega); omega)
      have h2 : nI (n - 1 - t) + -1 = nI (n - 1 - (t + 1)) := by
        obtain ⟨q, hq⟩ : ∃ q, n - 1 - t = q + 1 := ⟨n - 1 - t - 1, by omega⟩
        rw [hq, pk_m1, show n - 1 - (t + 1) = q by omega]
      simp (disch := omega) only [List.drop, i212, wp_iinc, wpE0, wpE1, wpE2, wpE3, wpE4, wpE5, wpJ, okS, lt4S, popR, litS, Int32.reduceLT, Int32.reduceLE, List.getElem?_cons_zero, List.getElem?_cons_succ, Bool.false_eq_true, ↓reduceIte, Nat.reduceMod, Nat.reduceDiv, Nat.reduceAdd, Nat.reduceSub, Nat.reduceMul, Nat.reduceLeDiff, Nat.reduceEqDiff, Nat.reduceBEq, Int.reduceToNat, Int.reduceAdd, Int32.reduceOfInt, Int64.reduceOfInt, Int32.reduceToNatClampNeg, Int32.reduceOfNat, Bool.or_self, Bool.or_false, Bool.false_or, Bool.true_or, Bool.or_true, true_and, and_true, false_and, and_false, List.set_cons_zero, List.set_cons_succ, List.take_succ_cons, List.take_zero, List.drop_succ_cons, List.drop_zero, List.reverse_cons, List.reverse_nil, List.nil_append, List.cons_append, List.length_cons, List.length_nil, Option.toList_some, Option.toList_none, not_true_eq_false, not_false_eq_true, forall_const, true_implies, false_implies, nrw, TTS, s213, i213, shM, shO, and01, bI_0, bI_and, isRl, cmpS, toLS, toL_le, toL_lt, i2lS, inM, Int64.reduceLE, Int64.reduceLT, xa_1, xa_2, xa_xa, upd_at, updU, linS, nI_add, nI_s2, clN, inN, inLS, Nat.reduceEqDiff, ↓reduceIte, not_true_eq_false, not_false_eq_true, and_true, true_and, and_false, false_and, and_self, or_true, true_or, or_false, false_or, ↓reduceIte, if_true, if_false, eq_self, subS, hm k (by omega), hm (n - 1 - t) (by omega), hlt, h2, not_true_eq_false, not_false_eq_true, and_true, true_and, and_false, false_and, and_self, or_true, true_or, or_false, false_or, ↓reduceIte, if_true, if_false, eq_self]
    · have := hk (n - 1 - (k + 1)) (by omega)
      rw [show n - 1 - (n - 1 - (k + 1)) = k + 1 by omega] at this
      exact absurd (Classical.not_not.mp this) (by omega)

  · refine vc_wp (T := TT [(213, S213)]) (TTc t213 TTn) (fun _ => false) (rt0 := some .boolean) rfl (ckl_drop 4 c212) rfl ?_
    have hp2 := Classical.not_not.mp hp
    obtain ⟨k, hkd⟩ : ∃ k, k = n - 2 - t := ⟨_, rfl⟩
    have hkI : nI n - nI (2 + t) = nI k := by rw [nI_sub (by omega)]; congr 1; omega
    rw [← hkd] at hp2
    have hkp : ¬ nI k < 0 := nI_pos (by omega)
    have hlt : ¬ nI (f k) ≤ nI (f (k + 1)) := nI_ge hp2 (by have := hf0.1 k (by omega); omega)
    have h2 : nI k + -1 = nI n - nI (2 + (t + 1)) := by rw [← hkI]; exact f_step n (1 + t) |>.trans (by rw [show 1 + t + 1 + 1 = 2 + (t + 1) by omega]) |> fun z => by rw [show 1 + t + 1 = 2 + t by omega] at z; exact z
    simp (disch := omega) only [List.drop, i212, wp_iinc, wpE0, wpE1, wpE2, wpE3, wpE4, wpE5, wpJ, okS, lt4S, popR, litS, Int32.reduceLT, Int32.reduceLE, List.getElem?_cons_zero, List.getElem?_cons_succ, Bool.false_eq_true, ↓reduceIte, Nat.reduceMod, Nat.reduceDiv, Nat.reduceAdd, Nat.reduceSub, Nat.reduceMul, Nat.reduceLeDiff, Nat.reduceEqDiff, Nat.reduceBEq, Int.reduceToNat, Int.reduceAdd, Int32.reduceOfInt, Int64.reduceOfInt, Int32.reduceToNatClampNeg, Int32.reduceOfNat, Bool.or_self, Bool.or_false, Bool.false_or, Bool.true_or, Bool.or_true, true_and, and_true, false_and, and_false, List.set_cons_zero, List.set_cons_succ, List.take_succ_cons, List.take_zero, List.drop_succ_cons, List.drop_zero, List.reverse_cons, List.reverse_nil, List.nil_append, List.cons_append, List.length_cons, List.length_nil, Option.toList_some, Option.toList_none, not_true_eq_false, not_false_eq_true, forall_const, true_implies, false_implies, nrw, TTS, s213, i213, shM, shO, and01, bI_0, bI_and, isRl, cmpS, toLS, toL_le, toL_lt, i2lS, inM, Int64.reduceLE, Int64.reduceLT, xa_1, xa_2, xa_xa, upd_at, updU, linS, nI_add, nI_s2, clN, inN, inLS, Nat.reduceEqDiff, ↓reduceIte, not_true_eq_false, not_false_eq_true, and_true, true_and, and_false, false_and, and_self, or_true, true_or, or_false, false_or, ↓reduceIte, if_true, if_false, eq_self, subS, hkI, hm k (by omega), hm (k + 1) (by omega), hlt, hkp, h2, nI_1, not_true_eq_false, not_false_eq_true, and_true, true_and, and_false, false_and, and_self, or_true, true_or, or_false, false_or, ↓reduceIte, if_true, if_false, eq_self]
  · refine vc_wp (T := TT [(213, S213)]) (TTc t213 TTn) (fun _ => false) (rt0 := some .boolean) rfl (ckl_drop 4 c212) rfl ?_
    have hng : nI n - nI (2 + (n - 1)) < 0 := pk_sneg (by omega) (by omega)
    have hng2 : ¬ 0 ≤ nI n - nI (2 + (n - 1)) := Int32.not_le.mpr hng
    simp (disch := omega) only [List.drop, i212, wp_iinc, wpE0, wpE1, wpE2, wpE3, wpE4, wpE5, wpJ, okS, lt4S, popR, litS, Int32.reduceLT, Int32.reduceLE, List.getElem?_cons_zero, List.getElem?_cons_succ, Bool.false_eq_true, ↓reduceIte, Nat.reduceMod, Nat.reduceDiv, Nat.reduceAdd, Nat.reduceSub, Nat.reduceMul, Nat.reduceLeDiff, Nat.reduceEqDiff, Nat.reduceBEq, Int.reduceToNat, Int.reduceAdd, Int32.reduceOfInt, Int64.reduceOfInt, Int32.reduceToNatClampNeg, Int32.reduceOfNat, Bool.or_self, Bool.or_false, Bool.false_or, Bool.true_or, Bool.or_true, true_and, and_true, false_and, and_false, List.set_cons_zero, List.set_cons_succ, List.take_succ_cons, List.take_zero, List.drop_succ_cons, List.drop_zero, List.reverse_cons, List.reverse_nil, List.nil_append, List.cons_append, List.length_cons, List.length_nil, Option.toList_some, Option.toList_none, not_true_eq_false, not_false_eq_true, forall_const, true_implies, false_implies, nrw, TTS, s213, i213, shM, shO, and01, bI_0, bI_and, isRl, cmpS, toLS, toL_le, toL_lt, i2lS, inM, Int64.reduceLE, Int64.reduceLT, xa_1, xa_2, xa_xa, upd_at, updU, linS, nI_add, nI_s2, clN, inN, inLS, Nat.reduceEqDiff, ↓reduceIte, not_true_eq_false, not_false_eq_true, and_true, true_and, and_false, false_and, and_self, or_true, true_or, or_false, false_or, ↓reduceIte, if_true, if_false, eq_self, hng, hng2, not_true_eq_false, not_false_eq_true, and_true, true_and, and_false, false_and, and_self, or_true, true_or, or_false, false_or, ↓reduceIte, if_true, if_false, eq_self]
    refine h0 (fun i hi => ?_)
    have := Classical.not_not.mp (hk (n - 2 - i) (by omega))
    rw [show n - 2 - (n - 2 - i) = i by omega] at this
    exact this

