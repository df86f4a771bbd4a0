def insG (g : Nat → Nat) (b s : Nat) (i : Nat) : Nat := if i < s then g i else if i = s then b else g (i - 1)
theorem insG_lo {g : Nat → Nat} {b s i : Nat} (h : i < s) : insG g b s i = g i := if_pos h
theorem insG_at {g : Nat → Nat} {b s : Nat} : insG g b s s = b := by unfold insG; rw [if_neg (by omega), if_pos rfl]
theorem insG_hi {g : Nat → Nat} {b s i : Nat} (h : s < i) : insG g b s i = g (i - 1) := by unfold insG; rw [if_neg (by omega), if_neg (by omega)]
theorem insG_pm {g : Nat → Nat} {b s : Nat} (hs : s ≤ b) (hg : pm b g) : pm (b + 1) (insG g b s) := by
  have hlt : ∀ i, i < b → g i < b := hg.1
  refine ⟨fun i hi => ?_, fun i j hi hj e => ?_⟩
  · rcases Nat.lt_trichotomy i s with z | z | z
    · rw [insG_lo z]; have := hlt i (by omega); omega
    · subst z; rw [insG_at]; omega
    · rw [insG_hi z]; have := hlt (i - 1) (by omega); omega
  · rcases Nat.lt_trichotomy i s with z | z | z <;> rcases Nat.lt_trichotomy j s with y | y | y
    · rw [insG_lo z, insG_lo y] at e; exact hg.2 i j (by omega) (by omega) e
    · subst y; rw [insG_lo z, insG_at] at e; have := hlt i (by omega); omega
    · rw [insG_lo z, insG_hi y] at e; have := hg.2 i (j - 1) (by omega) (by omega) e; omega
    · subst z; rw [insG_at, insG_lo y] at e; have := hlt j (by omega); omega
    · omega
    · subst z; rw [insG_at, insG_hi y] at e; have := hlt (j - 1) (by omega); omega
    · rw [insG_hi z, insG_lo y] at e; have := hg.2 (i - 1) j (by omega) (by omega) e; omega
    · subst y; rw [insG_hi z, insG_at] at e; have := hlt (i - 1) (by omega); omega
    · rw [insG_hi z, insG_hi y] at e; have := hg.2 (i - 1) (j - 1) (by omega) (by omega) e; omega
theorem insG_tP {w g : Nat → Nat} {b s : Nat} (hs : s ≤ b) (hg : pm b g) (ht : tP b 1 w g) (h1 : ∀ i, i < s → w b ≤ w (g i)) (h2 : ∀ i, s ≤ i → i < b → w (g i) < w b) : tP (b + 1) 1 w (insG g b s) := by
  intro j k hjk hk
  rw [Nat.div_one, Nat.div_one]
  have ht : ∀ j k, j < k → k < b → w (g k) ≤ w (g j) ∧ (w (g j) = w (g k) → g j < g k) := fun j k h1 h2 => by
    have := ht j k h1 h2
    rw [Nat.div_one, Nat.div_one] at this
    exact ⟨this.1 h1, fun e => this.2 (Or.inr e)⟩
  have key : w (insG g b s k) ≤ w (insG g b s j) ∧ (w (insG g b s j) = w (insG g b s k) → insG g b s j < insG g b s k) := by
    rcases Nat.lt_trichotomy j s with z | z | z <;> rcases Nat.lt_trichotomy k s with y | y | y <;> try omega
    · rw [insG_lo z, insG_lo y]; exact ht j k hjk (by omega)
    · subst y; rw [insG_lo z, insG_at]; exact ⟨h1 j z, fun _ => hg.1 j (by omega)⟩
    · rw [insG_lo z, insG_hi y]; exact ht j (k - 1) (by omega) (by omega)
    · subst z; rw [insG_at, insG_hi y]; have := h2 (k - 1) (by omega) (by omega); exact ⟨by omega, fun e => by omega⟩
    · rw [insG_hi z, insG_hi y]; exact ht (j - 1) (k - 1) (by omega) (by omega)
  exact ⟨fun _ => key.1, fun e => e.elim (fun e => by omega) key.2⟩
def shf (F : Nat → Int32) (b t i : Nat) : Int32 := if b - t < i ∧ i ≤ b then F (i - 1) else F i
theorem shf_0 (F : Nat → Int32) (b : Nat) : shf F b 0 = F := by funext i; exact if_neg (by omega)
theorem shf_lo {F : Nat → Int32} {b t i : Nat} (h : i ≤ b - t) : shf F b t i = F i := if_neg (by omega)
theorem shf_s {F : Nat → Int32} {b t : Nat} (h : t < b) : upd (shf F b t) (b - t) (F (b - t - 1)) = shf F b (t + 1) := by
  funext i
  by_cases e : i = b - t
  · rw [upd_eq e, e]
    exact (if_pos (by omega)).symm
  · rw [upd_ne e]
    by_cases y : b - t < i ∧ i ≤ b
    · exact (if_pos y).trans (if_pos (by omega)).symm
    · exact (if_neg y).trans (if_neg (by omega)).symm
theorem shf_e {F : Nat → Int32} {g : Nat → Nat} {b t : Nat} (ht : t ≤ b) (hF : ∀ i, i < b → F i = nI (g i)) : ∀ i, i < b + 1 → upd (shf F b t) (b - t) (nI b) i = nI (insG g b (b - t) i) := by
  intro i hi
  rcases Nat.lt_trichotomy i (b - t) with z | z | z
  · rw [upd_ne (by omega), insG_lo z, ← hF i (by omega)]
    exact if_neg (by omega)
  · rw [upd_eq z, z, insG_at]
  · rw [upd_ne (by omega), insG_hi z, ← hF (i - 1) (by omega)]
    exact if_pos (by omega)

theorem t114x {G : xG} {m : xM} {Q : xQt} {b : Nat} {w g : Nat → Nat} (hb : b < 6) (hg : pm b g) (hT : tP b 1 w g) (hF : ∀ i, i < b → m.1 82 i = nI (g i)) (hO : ∀ i, i ≤ b → m.1 83 i = nI (w i)) (hw9 : ∀ i, i ≤ b → w i ≤ 99) (h : ∀ F g', pm (b + 1) g' → tP (b + 1) 1 w g' → (∀ i, i < b + 1 → F i = nI (g' i)) → Q none (xa m 82 F)) : Tri G 114 [.ref 81, .int (nI b)] m Q := by
  refine tri_vc (ls := [.ref 81, .int (nI b), .null]) (by decide +kernel) rfl (Nat.le_of_ble_eq_true rfl) ?_
  have e0 : (xa m 82 (shf (m.1 82) b 0)) = m := by rw [shf_0]; exact xa_id m 82
  refine vc_seq (pc1 := 2) (ls1 := [.ref 81, .int (nI b), .int (nI (b - 0))]) (m1 := m) (vc_wp (T := TT []) TTn (fun p => p == 2) (rt0 := none) rfl c114 rfl ?_) ?_
  · simp (disch := omega) only [i114, wp_iinc, wpE0, wpE1, wpE2, wpE3, wpE4, wpE5, wpJ, okS, lt4S, popR, litS, Int32.reduceLT, Int32.reduceLE, List.getElem?_cons_zero, List.getElem?_cons_succ, Bool.false_eq_true, ↓reduceIte, Nat.reduceMod, Nat.reduceDiv, Nat.reduceAdd, Nat.reduceSub, Nat.reduceMul, Nat.reduceLeDiff, Nat.reduceEqDiff, Nat.reduceBEq, Int.reduceToNat, Int.reduceAdd, Int32.reduceOfInt, Int64.reduceOfInt, Int32.reduceToNatClampNeg, Int32.reduceOfNat, Bool.or_self, Bool.or_false, Bool.false_or, Bool.true_or, Bool.or_true, true_and, and_true, false_and, and_false, List.set_cons_zero, List.set_cons_succ, List.take_succ_cons, List.take_zero, List.drop_succ_cons, List.drop_zero, List.reverse_cons, List.reverse_nil, List.nil_append, List.cons_append, List.length_cons, List.length_nil, Option.toList_some, Option.toList_none, not_true_eq_false, not_false_eq_true, forall_const, true_implies, false_implies, nrw, TTS, shO, and01, inM, xa_1, xa_2, xa_xa, upd_at, updU, clN, inN, Nat.reduceEqDiff, ↓reduceIte, subS, Nat.sub_zero, not_true_eq_false, not_false_eq_true, and_true, true_and, and_false, false_and, and_self, or_true, true_or, or_false, false_or, ↓reduceIte, if_true, if_false, eq_self]
  rw [← e0]
  refine vc_findM b (fun t => [.ref 81, .int (nI b), .int (nI (b - t))]) (fun t => (xa m 82 (shf (m.1 82) b t))) (fun t => ¬ w (g (b - t - 1)) < w b) (fun t ht hp hf => ?_) (fun t ht hp => ?_) (fun hf hk => ?_)
  · have hbef : ∀ u, u < t → w (g (b - u - 1)) < w b := by
      rcases fi_spec (fun t => ¬ w (g (b - t - 1)) < w b) b with ⟨q1, _⟩ | ⟨_, _, q3⟩
      · omega
      · intro u hu
        exact Classical.not_not.mp (q3 u (by omega))
    have hs1 : nI (b - t) - 1 = nI (b - t - 1) := nI_sub (b := 1) (by omega)
    have hs0 : ¬ nI (b - t) ≤ 0 := nI_ge (a := 0) (by omega) (by omega)
    have hsp : 0 < nI (b - t) := Int32.not_le.mp hs0
    have hsm : nI (b - t) + -1 = nI (b - (t + 1)) := by
      obtain ⟨q, hq⟩ : ∃ q, b - t = q + 1 := ⟨b - t - 1, by omega⟩
      rw [hq, pk_m1, show b - (t + 1) = q by omega]
    have hr1 : shf (m.1 82) b t (b - t - 1) = nI (g (b - t - 1)) := by rw [shf_lo (by omega)]; exact hF _ (by omega)
    have hgl := hg.1 (b - t - 1) (by omega)
    have hr2 := hO (g (b - t - 1)) (by omega)
    have hr3 := hO b (by omega)
    have hw1 := hw9 (g (b - t - 1)) (by omega)
    have hw2 := hw9 b (by omega)
    have hc : nI (w b) ≤ nI (w (g (b - t - 1))) := nI_le (by omega) (by omega)
    refine vc_wp (T := TT []) TTn (fun _ => false) (rt0 := none) rfl (ckl_drop 2 c114) rfl ?_
    simp (disch := omega) only [List.drop, i114, wp_iinc, wpE0, wpE1, wpE2, wpE3, wpE4, wpE5, wpJ, okS, lt4S, popR, litS, Int32.reduceLT, Int32.reduceLE, List.getElem?_cons_zero, List.getElem?_cons_succ, Bool.false_eq_true, ↓reduceIte, Nat.reduceMod, Nat.reduceDiv, Nat.reduceAdd, Nat.reduceSub, Nat.reduceMul, Nat.reduceLeDiff, Nat.reduceEqDiff, Nat.reduceBEq, Int.reduceToNat, Int.reduceAdd, Int32.reduceOfInt, Int64.reduceOfInt, Int32.reduceToNatClampNeg, Int32.reduceOfNat, Bool.or_self, Bool.or_false, Bool.false_or, Bool.true_or, Bool.or_true, true_and, and_true, false_and, and_false, List.set_cons_zero, List.set_cons_succ, List.take_succ_cons, List.take_zero, List.drop_succ_cons, List.drop_zero, List.reverse_cons, List.reverse_nil, List.nil_append, List.cons_append, List.length_cons, List.length_nil, Option.toList_some, Option.toList_none, not_true_eq_false, not_false_eq_true, forall_const, true_implies, false_implies, nrw, TTS, shO, and01, inM, xa_1, xa_2, xa_xa, upd_at, updU, clN, inN, Nat.reduceEqDiff, ↓reduceIte, subS, hs1, hs0, hsp, hr1, hr2, hr3, hc, not_true_eq_false, not_false_eq_true, and_true, true_and, and_false, false_and, and_self, or_true, true_or, or_false, false_or, ↓reduceIte, if_true, if_false, eq_self]
    refine h _ (insG g b (b - t)) (insG_pm (by omega) hg) (insG_tP (by omega) hg hT ?_ ?_) (shf_e (by omega) hF)
    · intro i hi
      have a1 : w (g (b - t - 1)) ≤ w (g i) := by
        by_cases z : i = b - t - 1
        · rw [z]; exact Nat.le_refl _
        · have := (hT i (b - t - 1) (by omega) (by omega)).1
          rw [Nat.div_one, Nat.div_one] at this
          exact this (by omega)
      omega
    · intro i h1 h2
      have := hbef (b - 1 - i) (by omega)
      rw [show b - (b - 1 - i) - 1 = i by omega] at this
      exact this
  · have hp2 := Classical.not_not.mp hp
    have hs1 : nI (b - t) - 1 = nI (b - t - 1) := nI_sub (b := 1) (by omega)
    have hs0 : ¬ nI (b - t) ≤ 0 := nI_ge (a := 0) (by omega) (by omega)
    have hsp : 0 < nI (b - t) := Int32.not_le.mp hs0
    have hsm : nI (b - t) + -1 = nI (b - (t + 1)) := by
      obtain ⟨q, hq⟩ : ∃ q, b - t = q + 1 := ⟨b - t - 1, by omega⟩
      rw [hq, pk_m1, show b - (t + 1) = q by omega]
    have hr1 : shf (m.1 82) b t (b - t - 1) = nI (g (b - t - 1)) := by rw [shf_lo (by omega)]; exact hF _ (by omega)
    have hgl := hg.1 (b - t - 1) (by omega)
    have hr2 := hO (g (b - t - 1)) (by omega)
    have hr3 := hO b (by omega)
    have hw1 := hw9 (g (b - t - 1)) (by omega)
    have hw2 := hw9 b (by omega)
    have hc : ¬ nI (w b) ≤ nI (w (g (b - t - 1))) := nI_ge hp2 (by omega)
    have hst : upd (shf (m.1 82) b t) (b - t) (nI (g (b - t - 1))) = shf (m.1 82) b (t + 1) := by rw [← hF _ (by omega)]; exact shf_s ht
    refine vc_wp (T := TT []) TTn (fun _ => false) (rt0 := none) rfl (ckl_drop 2 c114) rfl ?_
    simp (disch := omega) only [List.drop, i114, wp_iinc, wpE0, wpE1, wpE2, wpE3, wpE4, wpE5, wpJ, okS, lt4S, popR, litS, Int32.reduceLT, Int32.reduceLE, List.getElem?_cons_zero, List.getElem?_cons_succ, Bool.false_eq_true, ↓reduceIte, Nat.reduceMod, Nat.reduceDiv, Nat.reduceAdd, Nat.reduceSub, Nat.reduceMul, Nat.reduceLeDiff, Nat.reduceEqDiff, Nat.reduceBEq, Int.reduceToNat, Int.reduceAdd, Int32.reduceOfInt, Int64.reduceOfInt, Int32.reduceToNatClampNeg, Int32.reduceOfNat, Bool.or_self, Bool.or_false, Bool.false_or, Bool.true_or, Bool.or_true, true_and, and_true, false_and, and_false, List.set_cons_zero, List.set_cons_succ, List.take_succ_cons, List.take_zero, List.drop_succ_cons, List.drop_zero, List.reverse_cons, List.reverse_nil, List.nil_append, List.cons_append, List.length_cons, List.length_nil, Option.toList_some, Option.toList_none, not_true_eq_false, not_false_eq_true, forall_const, true_implies, false_implies, nrw, TTS, shO, and01, inM, xa_1, xa_2, xa_xa, upd_at, updU, clN, inN, Nat.reduceEqDiff, ↓reduceIte, subS, hs1, hs0, hsp, hr1, hr2, hr3, hc, hst, hsm, not_true_eq_false, not_false_eq_true, and_true, true_and, and_false, false_and, and_self, or_true, true_or, or_false, false_or, ↓reduceIte, if_true, if_false, eq_self]

  · have e : b - b = 0 := by omega
    have hz : nI (b - b) ≤ 0 := by rw [e]; decide
    have hz' : ¬ 0 < nI (b - b) := by rw [e]; decide
    refine vc_wp (T := TT []) TTn (fun _ => false) (rt0 := none) rfl (ckl_drop 2 c114) rfl ?_
    simp (disch := omega) only [List.drop, i114, wp_iinc, wpE0, wpE1, wpE2, wpE3, wpE4, wpE5, wpJ, okS, lt4S, popR, litS, Int32.reduceLT, Int32.reduceLE, List.getElem?_cons_zero, List.getElem?_cons_succ, Bool.false_eq_true, ↓reduceIte, Nat.reduceMod, Nat.reduceDiv, Nat.reduceAdd, Nat.reduceSub, Nat.reduceMul, Nat.reduceLeDiff, Nat.reduceEqDiff, Nat.reduceBEq, Int.reduceToNat, Int.reduceAdd, Int32.reduceOfInt, Int64.reduceOfInt, Int32.reduceToNatClampNeg, Int32.reduceOfNat, Bool.or_self, Bool.or_false, Bool.false_or, Bool.true_or, Bool.or_true, true_and, and_true, false_and, and_false, List.set_cons_zero, List.set_cons_succ, List.take_succ_cons, List.take_zero, List.drop_succ_cons, List.drop_zero, List.reverse_cons, List.reverse_nil, List.nil_append, List.cons_append, List.length_cons, List.length_nil, Option.toList_some, Option.toList_none, not_true_eq_false, not_false_eq_true, forall_const, true_implies, false_implies, nrw, TTS, shO, and01, inM, xa_1, xa_2, xa_xa, upd_at, updU, clN, inN, Nat.reduceEqDiff, ↓reduceIte, subS, hz, hz', not_true_eq_false, not_false_eq_true, and_true, true_and, and_false, false_and, and_self, or_true, true_or, or_false, false_or, ↓reduceIte, if_true, if_false, eq_self]
    refine h _ (insG g b (b - b)) (insG_pm (by omega) hg) (insG_tP (by omega) hg hT ?_ ?_) (shf_e (by omega) hF)
    · intro i hi; omega
    · intro i h1 h2
      have := Classical.not_not.mp (hk (b - 1 - i) (by omega))
      rw [show b - (b - 1 - i) - 1 = i by omega] at this
      exact this

def crs (n : Nat) (w g : Nat → Nat) : Prop := ∀ j k, j < k → k < n → j / 2 < k / 2 → w (g k) ≤ w (g j) ∧ (w (g j) = w (g k) → g j < g k)
theorem crs_0 {n : Nat} {w g : Nat → Nat} (h : tP n 1 w g) : crs n w g := fun j k h1 h2 _ => by
  have := h j k h1 h2
  rw [Nat.div_one, Nat.div_one] at this
  exact ⟨this.1 h1, fun e => this.2 (Or.inr e)⟩
theorem swp_at {g : Nat → Nat} {t n : Nat} (h : 2 * t + 1 < n) : ∀ j, j < n → ∃ j', j' < n ∧ j' / 2 = j / 2 ∧ swp g (2 * t) (2 * t + 1) j = g j' := fun j hj => by
  by_cases e1 : j = 2 * t
  · exact ⟨2 * t + 1, h, by omega, by rw [e1, swp_j]⟩
  · by_cases e2 : j = 2 * t + 1
    · exact ⟨2 * t, by omega, by omega, by rw [e2, swp_k (by omega)]⟩
    · exact ⟨j, hj, rfl, swp_o e1 e2⟩
theorem crs_s {n t : Nat} {w g : Nat → Nat} (h : 2 * t + 1 < n) (hc : crs n w g) : crs n w (swp g (2 * t) (2 * t + 1)) := fun j k h1 h2 h3 => by
  obtain ⟨j', a1, a2, a3⟩ := swp_at (g := g) h j (by omega)
  obtain ⟨k', b1, b2, b3⟩ := swp_at (g := g) h k h2
  rw [a3, b3]
  exact hc j' k' (by omega) b1 (by omega)
theorem crs_e {n : Nat} {w g : Nat → Nat} (hc : crs n w g) (hp : ∀ q, 2 * q + 1 < n → g (2 * q) < g (2 * q + 1)) : tP n 2 w g := fun j k h1 h2 => by
  by_cases e : j / 2 = k / 2
  · have e1 : j = 2 * (j / 2) := by omega
    have e2 : k = 2 * (j / 2) + 1 := by omega
    have := hp (j / 2) (by omega)
    rw [← e2, ← e1] at this
    exact ⟨fun z => by omega, fun _ => this⟩
  · have := hc j k h1 h2 (by omega)
    exact ⟨fun _ => this.1, fun z => z.elim (fun z => absurd z e) this.2⟩
theorem swp_upd {F : Nat → Int32} {g : Nat → Nat} {j k n : Nat} (hjk : j < k) (hk : k < n) (hF : ∀ i, i < n → F i = nI (g i)) : ∀ i, i < n → upd (upd F j (nI (g k))) k (nI (g j)) i = nI (swp g j k i) := fun i hi => by
  by_cases e2 : i = k
  · rw [upd_eq e2, e2, swp_k hjk]
  · rw [upd_ne e2]
    by_cases e1 : i = j
    · rw [upd_eq e1, e1, swp_j]
    · rw [upd_ne e1, swp_o e1 e2]; exact hF i hi

def S115 (as : List Value) (m : xM) (Q : xQt) : Prop := match as with
  | [.ref o, .int a] => wp (fun _ _ _ _ => False) (fun _ => false) Q (none) (TT []) none i115 [.ref o, .int a, .null] [] m
  | _ => False
theorem s115 (o : Nat) (a : Int32) (m : xM) (Q : xQt) : S115 [.ref o, .int a] m Q = wp (fun _ _ _ _ => False) (fun _ => false) Q (none) (TT []) none i115 [.ref o, .int a, .null] [] m := rfl
theorem t115 {G : xG} : ∀ as m Q, S115 as m Q → Tri G 115 as m Q := by
  intro as m Q h
  match as, h with
  | [.ref o, .int a], h => exact tri_wp (T := TT []) (ls := [.ref o, .int a, .null]) TTn c115 (by decide +kernel) (rt0 := none) rfl rfl (Nat.le_of_ble_eq_true rfl) rfl h

theorem t113x {G : xG} {m : xM} {Q : xQt} {rr n r : Nat} {w : Nat → Nat} (hrr : rr < 8) (hn : n ≤ 6) (hr : r = 1 ∨ r = 2) (hw : ∀ v, v < n → m.1 4 (rr * 40 + v) = nI (w v)) (hw9 : ∀ v, v < n → w v ≤ 99) (h : ∀ F2 F3 g, pm n g → tP n r w g → (∀ i, i < n → F2 i = nI (g i)) → (∀ i, i < n → F3 i = nI (w i)) → Q none (xa (xa (xa m 81 (upd (m.1 81) 2 (nI n))) 83 F3) 82 F2)) : Tri G 113 [.ref 81, .ref 1, .int (nI rr), .int (nI n), .int (nI r)] m Q := by
  have hir : (nI rr).toNatClampNeg = rr := nI_clamp (by omega)
  have hinr : vp_in (nI rr) 8 := xin_nI hrr (by omega)
  refine tri_vc (ls := [.ref 81, .ref 1, .int (nI rr), .int (nI n), .int (nI r), .null]) (by decide +kernel) rfl (Nat.le_of_ble_eq_true rfl) ?_
  refine vc_seq (pc1 := 8) (ls1 := [.ref 81, .ref 1, .int (nI rr), .int (nI n), .int (nI r), .int 0]) (m1 := (xa m 81 (upd (m.1 81) 2 (nI n)))) (vc_wp (T := TT [(112, S112)]) (TTc t112 TTn) (fun p => p == 8) (rt0 := none) rfl c113 rfl ?_) ?_
  · simp (disch := omega) only [i113, wp_iinc, wpE0, wpE1, wpE2, wpE3, wpE4, wpE5, wpJ, okS, lt4S, popR, litS, Int32.reduceLT, Int32.reduceLE, List.getElem?_cons_zero, List.getElem?_cons_succ, Bool.false_eq_true, ↓reduceIte, Nat.reduceMod, Nat.reduceDiv, Nat.reduceAdd, Nat.reduceSub, Nat.reduceMul, Nat.reduceLeDiff, Nat.reduceEqDiff, Nat.reduceBEq, Int.reduceToNat, Int.reduceAdd, Int32.reduceOfInt, Int64.reduceOfInt, Int32.reduceToNatClampNeg, Int32.reduceOfNat, Bool.or_self, Bool.or_false, Bool.false_or, Bool.true_or, Bool.or_true, true_and, and_true, false_and, and_false, List.set_cons_zero, List.set_cons_succ, List.take_succ_cons, List.take_zero, List.drop_succ_cons, List.drop_zero, List.reverse_cons, List.reverse_nil, List.nil_append, List.cons_append, List.length_cons, List.length_nil, Option.toList_some, Option.toList_none, not_true_eq_false, not_false_eq_true, forall_const, true_implies, false_implies, nrw, TTS, s112, i112, shO, sh7L, and01, bI_0, bI_and, isCl, isRl, cmpS, toLS, toL_le, toL_lt, i2lS, inM, Int64.reduceLE, Int64.reduceLT, xa_1, xa_2, xa_xa, upd_at, updU, Nat.reduceEqDiff, ↓reduceIte, not_true_eq_false, not_false_eq_true, and_true, true_and, and_false, false_and, and_self, or_true, true_or, or_false, false_or, ↓reduceIte, if_true, if_false, eq_self, clN, inN, linS, hir, hinr, nI_add, pk_mul, subS, not_true_eq_false, not_false_eq_true, and_true, true_and, and_false, false_and, and_self, or_true, true_or, or_false, false_or, ↓reduceIte, if_true, if_false, eq_self]
  refine vc_forP n (fun i => [.ref 81, .ref 1, .int (nI rr), .int (nI n), .int (nI r), .int (nI i)]) (fun i m' => ∃ F2 F3 g, m' = (xa (xa (xa m 81 (upd (m.1 81) 2 (nI n))) 83 F3) 82 F2) ∧ pm i g ∧ tP i 1 w g ∧ (∀ j, j < i → F2 j = nI (g j)) ∧ ∀ j, j < i → F3 j = nI (w j)) (fun i m' hi hp => ?_) (fun m' hp => ?_) ⟨m.1 82, m.1 83, fun i => i, ?_, ⟨fun i hi => absurd hi (by omega), fun i j hi => absurd hi (by omega)⟩, fun j k _ hk => absurd hk (by omega), fun j hj => absurd hj (by omega), fun j hj => absurd hj (by omega)⟩
  · obtain ⟨F2, F3, g, rfl, hg, hT, hF2, hF3⟩ := hp
    have hi2 : ¬ nI n ≤ nI i := nI_ge hi (by omega)
    have hwi := hw i hi
    have hF3' : ∀ j, j ≤ i → upd F3 i (nI (w i)) j = nI (w j) := fun j hj => by
      by_cases z : j = i
      · rw [upd_eq z, z]
      · rw [upd_ne z]; exact hF3 j (by omega)
    have h114 : ∀ as m' Q', (as = [.ref 81, .int (nI i)] ∧ m' = (xa (xa (xa m 81 (upd (m.1 81) 2 (nI n))) 83 (upd F3 i (nI (w i)))) 82 F2) ∧ (∀ F g', pm (i + 1) g' → tP (i + 1) 1 w g' → (∀ j, j < i + 1 → F j = nI (g' j)) → Q' none (xa (xa (xa (xa m 81 (upd (m.1 81) 2 (nI n))) 83 (upd F3 i (nI (w i)))) 82 F2) 82 F))) → Tri G 114 as m' Q' := by
      rintro as m' Q' ⟨rfl, rfl, g1⟩
      exact t114x (w := w) (by omega) hg hT hF2 hF3' (fun j hj => hw9 j (by omega)) g1
    have exx : xa (xa (xa m 81 (upd (m.1 81) 2 (nI n))) 83 F3) 82 F2 = xa (xa (xa m 81 (upd (m.1 81) 2 (nI n))) 82 F2) 83 F3 := xa_cm (by decide)
    refine vc_wp (T := TT [(112, S112), (114, fun as m' Q' => as = [.ref 81, .int (nI i)] ∧ m' = (xa (xa (xa m 81 (upd (m.1 81) 2 (nI n))) 83 (upd F3 i (nI (w i)))) 82 F2) ∧ (∀ F g', pm (i + 1) g' → tP (i + 1) 1 w g' → (∀ j, j < i + 1 → F j = nI (g' j)) → Q' none (xa (xa (xa (xa m 81 (upd (m.1 81) 2 (nI n))) 83 (upd F3 i (nI (w i)))) 82 F2) 82 F)))]) (TTc t112 (TTc h114 TTn)) (fun _ => false) (rt0 := none) rfl (ckl_drop 5 c113) rfl ?_
    simp (disch := omega) only [List.drop, i113, wp_iinc, wpE0, wpE1, wpE2, wpE3, wpE4, wpE5, wpJ, okS, lt4S, popR, litS, Int32.reduceLT, Int32.reduceLE, List.getElem?_cons_zero, List.getElem?_cons_succ, Bool.false_eq_true, ↓reduceIte, Nat.reduceMod, Nat.reduceDiv, Nat.reduceAdd, Nat.reduceSub, Nat.reduceMul, Nat.reduceLeDiff, Nat.reduceEqDiff, Nat.reduceBEq, Int.reduceToNat, Int.reduceAdd, Int32.reduceOfInt, Int64.reduceOfInt, Int32.reduceToNatClampNeg, Int32.reduceOfNat, Bool.or_self, Bool.or_false, Bool.false_or, Bool.true_or, Bool.or_true, true_and, and_true, false_and, and_false, List.set_cons_zero, List.set_cons_succ, List.take_succ_cons, List.take_zero, List.drop_succ_cons, List.drop_zero, List.reverse_cons, List.reverse_nil, List.nil_append, List.cons_append, List.length_cons, List.length_nil, Option.toList_some, Option.toList_none, not_true_eq_false, not_false_eq_true, forall_const, true_implies, false_implies, nrw, TTS, s112, i112, shO, sh7L, and01, bI_0, bI_and, isCl, isRl, cmpS, toLS, toL_le, toL_lt, i2lS, inM, Int64.reduceLE, Int64.reduceLT, xa_1, xa_2, xa_xa, upd_at, updU, Nat.reduceEqDiff, ↓reduceIte, not_true_eq_false, not_false_eq_true, and_true, true_and, and_false, false_and, and_self, or_true, true_or, or_false, false_or, ↓reduceIte, if_true, if_false, eq_self, clN, inN, linS, hir, hinr, nI_add, pk_mul, subS, hi2, nI_1, hwi, not_true_eq_false, not_false_eq_true, and_true, true_and, and_false, false_and, and_self, or_true, true_or, or_false, false_or, ↓reduceIte, if_true, if_false, eq_self]
    refine ⟨?_, ?_⟩
    · rw [exx, xa_xa, xa_cm (by decide)]
    intro F g' a1 a2 a3
    exact ⟨F, upd F3 i (nI (w i)), g', rfl, a1, a2, a3, fun j hj => hF3' j (by omega)⟩
  · obtain ⟨F2, F3, g, rfl, hg, hT, hF2, hF3⟩ := hp
    have hi2 : nI n ≤ nI n := Int32.le_refl _
    refine vc_seq (pc1 := 46) (ls1 := [.ref 81, .ref 1, .int (nI rr), .int (nI n), .int (nI r), .int 0]) (m1 := (xa (xa (xa m 81 (upd (m.1 81) 2 (nI n))) 83 F3) 82 F2)) (vc_wp (T := TT [(115, S115)]) (TTc t115 TTn) (fun p => p == 46) (rt0 := none) rfl (ckl_drop 5 c113) rfl ?_) ?_
    · simp (disch := omega) only [List.drop, i113, wp_iinc, wpE0, wpE1, wpE2, wpE3, wpE4, wpE5, wpJ, okS, lt4S, popR, litS, Int32.reduceLT, Int32.reduceLE, List.getElem?_cons_zero, List.getElem?_cons_succ, Bool.false_eq_true, ↓reduceIte, Nat.reduceMod, Nat.reduceDiv, Nat.reduceAdd, Nat.reduceSub, Nat.reduceMul, Nat.reduceLeDiff, Nat.reduceEqDiff, Nat.reduceBEq, Int.reduceToNat, Int.reduceAdd, Int32.reduceOfInt, Int64.reduceOfInt, Int32.reduceToNatClampNeg, Int32.reduceOfNat, Bool.or_self, Bool.or_false, Bool.false_or, Bool.true_or, Bool.or_true, true_and, and_true, false_and, and_false, List.set_cons_zero, List.set_cons_succ, List.take_succ_cons, List.take_zero, List.drop_succ_cons, List.drop_zero, List.reverse_cons, List.reverse_nil, List.nil_append, List.cons_append, List.length_cons, List.length_nil, Option.toList_some, Option.toList_none, not_true_eq_false, not_false_eq_true, forall_const, true_implies, false_implies, nrw, TTS, s115, i115, shO, sh7L, and01, bI_0, bI_and, isCl, isRl, cmpS, toLS, toL_le, toL_lt, i2lS, inM, Int64.reduceLE, Int64.reduceLT, xa_1, xa_2, xa_xa, upd_at, updU, Nat.reduceEqDiff, ↓reduceIte, not_true_eq_false, not_false_eq_true, and_true, true_and, and_false, false_and, and_self, or_true, true_or, or_false, false_or, ↓reduceIte, if_true, if_false, eq_self, clN, inN, linS, nI_add, subS, hi2, not_true_eq_false, not_false_eq_true, and_true, true_and, and_false, false_and, and_self, or_true, true_or, or_false, false_or, ↓reduceIte, if_true, if_false, eq_self]
    rcases hr with rfl | rfl
    · have hr1 : ¬ nI 1 = 2 := by decide
      refine vc_wp (T := TT [(115, S115)]) (TTc t115 TTn) (fun _ => false) (rt0 := none) rfl (ckl_drop 24 c113) rfl ?_
      simp (disch := omega) only [List.drop, i113, wp_iinc, wpE0, wpE1, wpE2, wpE3, wpE4, wpE5, wpJ, okS, lt4S, popR, litS, Int32.reduceLT, Int32.reduceLE, List.getElem?_cons_zero, List.getElem?_cons_succ, Bool.false_eq_true, ↓reduceIte, Nat.reduceMod, Nat.reduceDiv, Nat.reduceAdd, Nat.reduceSub, Nat.reduceMul, Nat.reduceLeDiff, Nat.reduceEqDiff, Nat.reduceBEq, Int.reduceToNat, Int.reduceAdd, Int32.reduceOfInt, Int64.reduceOfInt, Int32.reduceToNatClampNeg, Int32.reduceOfNat, Bool.or_self, Bool.or_false, Bool.false_or, Bool.true_or, Bool.or_true, true_and, and_true, false_and, and_false, List.set_cons_zero, List.set_cons_succ, List.take_succ_cons, List.take_zero, List.drop_succ_cons, List.drop_zero, List.reverse_cons, List.reverse_nil, List.nil_append, List.cons_append, List.length_cons, List.length_nil, Option.toList_some, Option.toList_none, not_true_eq_false, not_false_eq_true, forall_const, true_implies, false_implies, nrw, TTS, s115, i115, shO, sh7L, and01, bI_0, bI_and, isCl, isRl, cmpS, toLS, toL_le, toL_lt, i2lS, inM, Int64.reduceLE, Int64.reduceLT, xa_1, xa_2, xa_xa, upd_at, updU, Nat.reduceEqDiff, ↓reduceIte, not_true_eq_false, not_false_eq_true, and_true, true_and, and_false, false_and, and_self, or_true, true_or, or_false, false_or, ↓reduceIte, if_true, if_false, eq_self, clN, inN, linS, nI_add, subS, nI_1, hr1, not_true_eq_false, not_false_eq_true, and_true, true_and, and_false, false_and, and_self, or_true, true_or, or_false, false_or, ↓reduceIte, if_true, if_false, eq_self]
      exact h F2 F3 g hg hT hF2 hF3
    have hr2 : nI 2 = 2 := rfl
    refine vc_forP (n / 2) (fun t => [.ref 81, .ref 1, .int (nI rr), .int (nI n), .int (nI 2), .int (nI (2 * t))]) (fun t m' => ∃ F2 g, m' = (xa (xa (xa m 81 (upd (m.1 81) 2 (nI n))) 83 F3) 82 F2) ∧ pm n g ∧ crs n w g ∧ (∀ j, j < n → F2 j = nI (g j)) ∧ ∀ q, q < t → g (2 * q) < g (2 * q + 1)) (fun t m' ht hp => ?_) (fun m' hp => ?_) ⟨F2, g, rfl, hg, crs_0 hT, hF2, fun q hq => absurd hq (by omega)⟩
    · obtain ⟨F2, g, rfl, hg, hc, hF2, hq⟩ := hp
      have ht2 : 2 * t + 1 < n := by omega
      have hi2 : ¬ nI n ≤ nI (2 * t + 1) := nI_ge ht2 (by omega)
      have f1 := hF2 (2 * t) (by omega)
      have f2 := hF2 (2 * t + 1) ht2
      have g1 := hg.1 (2 * t) (by omega)
      have g2 := hg.1 (2 * t + 1) ht2
      have e2 : 2 * t + 2 = 2 * (t + 1) := by omega
      by_cases z : g (2 * t) ≤ g (2 * t + 1)
      · have z1 : nI (g (2 * t)) ≤ nI (g (2 * t + 1)) := nI_le z (by omega)
        refine vc_wp (T := TT [(115, S115)]) (TTc t115 TTn) (fun _ => false) (rt0 := none) rfl (ckl_drop 24 c113) rfl ?_
        simp (disch := omega) only [List.drop, i113, wp_iinc, wpE0, wpE1, wpE2, wpE3, wpE4, wpE5, wpJ, okS, lt4S, popR, litS, Int32.reduceLT, Int32.reduceLE, List.getElem?_cons_zero, List.getElem?_cons_succ, Bool.false_eq_true, ↓reduceIte, Nat.reduceMod, Nat.reduceDiv, Nat.reduceAdd, Nat.reduceSub, Nat.reduceMul, Nat.reduceLeDiff, Nat.reduceEqDiff, Nat.reduceBEq, Int.reduceToNat, Int.reduceAdd, Int32.reduceOfInt, Int64.reduceOfInt, Int32.reduceToNatClampNeg, Int32.reduceOfNat, Bool.or_self, Bool.or_false, Bool.false_or, Bool.true_or, Bool.or_true, true_and, and_true, false_and, and_false, List.set_cons_zero, List.set_cons_succ, List.take_succ_cons, List.take_zero, List.drop_succ_cons, List.drop_zero, List.reverse_cons, List.reverse_nil, List.nil_append, List.cons_append, List.length_cons, List.length_nil, Option.toList_some, Option.toList_none, not_true_eq_false, not_false_eq_true, forall_const, true_implies, false_implies, nrw, TTS, s115, i115, shO, sh7L, and01, bI_0, bI_and, isCl, isRl, cmpS, toLS, toL_le, toL_lt, i2lS, inM, Int64.reduceLE, Int64.reduceLT, xa_1, xa_2, xa_xa, upd_at, updU, Nat.reduceEqDiff, ↓reduceIte, not_true_eq_false, not_false_eq_true, and_true, true_and, and_false, false_and, and_self, or_true, true_or, or_false, false_or, ↓reduceIte, if_true, if_false, eq_self, clN, inN, linS, nI_add, subS, nI_1, hr2, hi2, f1, f2, z1, e2, not_true_eq_false, not_false_eq_true, and_true, true_and, and_false, false_and, and_self, or_true, true_or, or_false, false_or, ↓reduceIte, if_true, if_false, eq_self]
        refine ⟨F2, g, rfl, hg, hc, hF2, fun q hq2 => ?_⟩
        by_cases y : q = t
        · rw [y]
          have := hg.2 (2 * t) (2 * t + 1) (by omega) ht2
          omega
        · exact hq q (by omega)
      · have z1 : ¬ nI (g (2 * t)) ≤ nI (g (2 * t + 1)) := nI_ge (by omega) (by omega)
        refine vc_wp (T := TT [(115, S115)]) (TTc t115 TTn) (fun _ => false) (rt0 := none) rfl (ckl_drop 24 c113) rfl ?_
        simp (disch := omega) only [List.drop, i113, wp_iinc, wpE0, wpE1, wpE2, wpE3, wpE4, wpE5, wpJ, okS, lt4S, popR, litS, Int32.reduceLT, Int32.reduceLE, List.getElem?_cons_zero, List.getElem?_cons_succ, Bool.false_eq_true, ↓reduceIte, Nat.reduceMod, Nat.reduceDiv, Nat.reduceAdd, Nat.reduceSub, Nat.reduceMul, Nat.reduceLeDiff, Nat.reduceEqDiff, Nat.reduceBEq, Int.reduceToNat, Int.reduceAdd, Int32.reduceOfInt, Int64.reduceOfInt, Int32.reduceToNatClampNeg, Int32.reduceOfNat, Bool.or_self, Bool.or_false, Bool.false_or, Bool.true_or, Bool.or_true, true_and, and_true, false_and, and_false, List.set_cons_zero, List.set_cons_succ, List.take_succ_cons, List.take_zero, List.drop_succ_cons, List.drop_zero, List.reverse_cons, List.reverse_nil, List.nil_append, List.cons_append, List.length_cons, List.length_nil, Option.toList_some, Option.toList_none, not_true_eq_false, not_false_eq_true, forall_const, true_implies, false_implies, nrw, TTS, s115, i115, shO, sh7L, and01, bI_0, bI_and, isCl, isRl, cmpS, toLS, toL_le, toL_lt, i2lS, inM, Int64.reduceLE, Int64.reduceLT, xa_1, xa_2, xa_xa, upd_at, updU, Nat.reduceEqDiff, ↓reduceIte, not_true_eq_false, not_false_eq_true, and_true, true_and, and_false, false_and, and_self, or_true, true_or, or_false, false_or, ↓reduceIte, if_true, if_false, eq_self, clN, inN, linS, nI_add, subS, nI_1, hr2, hi2, f1, f2, z1, e2, not_true_eq_false, not_false_eq_true, and_true, true_and, and_false, false_and, and_self, or_true, true_or, or_false, false_or, ↓reduceIte, if_true, if_false, eq_self]
        refine ⟨_, swp g (2 * t) (2 * t + 1), rfl, swp_pm hg (by omega) ht2, crs_s ht2 hc, swp_upd (by omega) ht2 hF2, fun q hq2 => ?_⟩
        by_cases y : q = t
        · rw [y, swp_j, swp_k (by omega)]
          omega
        · rw [swp_o (by omega) (by omega), swp_o (by omega) (by omega)]
          exact hq q (by omega)
    · obtain ⟨F2, g, rfl, hg, hc, hF2, hq⟩ := hp
      have hi2 : nI n ≤ nI (2 * (n / 2) + 1) := nI_le (by omega) (by omega)
      refine vc_wp (T := TT [(115, S115)]) (TTc t115 TTn) (fun _ => false) (rt0 := none) rfl (ckl_drop 24 c113) rfl ?_
      simp (disch := omega) only [List.drop, i113, wp_iinc, wpE0, wpE1, wpE2, wpE3, wpE4, wpE5, wpJ, okS, lt4S, popR, litS, Int32.reduceLT, Int32.reduceLE, List.getElem?_cons_zero, List.getElem?_cons_succ, Bool.false_eq_true, ↓reduceIte, Nat.reduceMod, Nat.reduceDiv, Nat.reduceAdd, Nat.reduceSub, Nat.reduceMul, Nat.reduceLeDiff, Nat.reduceEqDiff, Nat.reduceBEq, Int.reduceToNat, Int.reduceAdd, Int32.reduceOfInt, Int64.reduceOfInt, Int32.reduceToNatClampNeg, Int32.reduceOfNat, Bool.or_self, Bool.or_false, Bool.false_or, Bool.true_or, Bool.or_true, true_and, and_true, false_and, and_false, List.set_cons_zero, List.set_cons_succ, List.take_succ_cons, List.take_zero, List.drop_succ_cons, List.drop_zero, List.reverse_cons, List.reverse_nil, List.nil_append, List.cons_append, List.length_cons, List.length_nil, Option.toList_some, Option.toList_none, not_true_eq_false, not_false_eq_true, forall_const, true_implies, false_implies, nrw, TTS, s115, i115, shO, sh7L, and01, bI_0, bI_and, isCl, isRl, cmpS, toLS, toL_le, toL_lt, i2lS, inM, Int64.reduceLE, Int64.reduceLT, xa_1, xa_2, xa_xa, upd_at, updU, Nat.reduceEqDiff, ↓reduceIte, not_true_eq_false, not_false_eq_true, and_true, true_and, and_false, false_and, and_self, or_true, true_or, or_false, false_or, ↓reduceIte, if_true, if_false, eq_self, clN, inN, linS, nI_add, subS, nI_1, hr2, hi2, not_true_eq_false, not_false_eq_true, and_true, true_and, and_false, false_and, and_self, or_true, true_or, or_false, false_or, ↓reduceIte, if_true, if_false, eq_self]
      exact h F2 F3 g hg (crs_e hc (fun q hq2 => hq q (by omega))) hF2 hF3
  · exact (by rw [show xa (xa m 81 (upd (m.1 81) 2 (nI n))) 83 (m.1 83) = (xa m 81 (upd (m.1 81) 2 (nI n))) from xa_id (xa m 81 (upd (m.1 81) 2 (nI n))) 83]; exact (xa_id (xa m 81 (upd (m.1 81) 2 (nI n))) 82).symm)

theorem t116x {G : xG} {m : xM} {Q : xQt} {n r M : Nat} {w g : Nat → Nat} (hn : n ≤ 6) (hr : r = 1 ∨ r = 2) (hM : M ≤ 20) (h81 : m.1 81 2 = nI n) (hg : pm n g) (hF : ∀ i, i < n → m.1 82 i = nI (g i)) (hO : ∀ i, i < n → m.1 83 i = nI (w i)) (h : Q (some (.int (nI (ct r M w g n)))) m) : Tri G 116 [.ref 81, .int (nI r), .int (nI M)] m Q := by
  rcases hr with rfl | rfl
  · refine tri_vc (ls := [.ref 81, .int (nI 1), .int (nI M), .null, .null, .null]) (by decide +kernel) rfl (Nat.le_of_ble_eq_true rfl) ?_
    refine vc_seq (pc1 := 5) (ls1 := [.ref 81, .int (nI 1), .int (nI M), .int 0, .int 0, .null]) (m1 := m) (vc_wp (T := TT []) TTn (fun p => p == 5) (rt0 := some .int) rfl c116 rfl ?_) ?_
    · simp (disch := omega) only [i116, wp_iinc, wpE0, wpE1, wpE2, wpE3, wpE4, wpE5, wpJ, okS, lt4S, popR, litS, Int32.reduceLT, Int32.reduceLE, List.getElem?_cons_zero, List.getElem?_cons_succ, Bool.false_eq_true, ↓reduceIte, Nat.reduceMod, Nat.reduceDiv, Nat.reduceAdd, Nat.reduceSub, Nat.reduceMul, Nat.reduceLeDiff, Nat.reduceEqDiff, Nat.reduceBEq, Int.reduceToNat, Int.reduceAdd, Int32.reduceOfInt, Int64.reduceOfInt, Int32.reduceToNatClampNeg, Int32.reduceOfNat, Bool.or_self, Bool.or_false, Bool.false_or, Bool.true_or, Bool.or_true, true_and, and_true, false_and, and_false, List.set_cons_zero, List.set_cons_succ, List.take_succ_cons, List.take_zero, List.drop_succ_cons, List.drop_zero, List.reverse_cons, List.reverse_nil, List.nil_append, List.cons_append, List.length_cons, List.length_nil, Option.toList_some, Option.toList_none, not_true_eq_false, not_false_eq_true, forall_const, true_implies, false_implies, nrw, TTS, shO, sh7L, and01, bI_0, bI_and, isCl, isRl, cmpS, toLS, toL_le, toL_lt, i2lS, inM, Int64.reduceLE, Int64.reduceLT, xa_1, xa_2, xa_xa, upd_at, updU, Nat.reduceEqDiff, ↓reduceIte, not_true_eq_false, not_false_eq_true, and_true, true_and, and_false, false_and, and_self, or_true, true_or, or_false, false_or, ↓reduceIte, if_true, if_false, eq_self, clN, inN, linS, nI_add, pk_mul, pk_div, h81, subS, not_true_eq_false, not_false_eq_true, and_true, true_and, and_false, false_and, and_self, or_true, true_or, or_false, false_or, ↓reduceIte, if_true, if_false, eq_self]
    refine vc_for n (fun i => [.ref 81, .int (nI 1), .int (nI M), .int (nI (ct 1 M w g i)), .int (nI i), .null]) (fun _ => m) (fun i hi => ?_) ?_
    · have hi2 : ¬ nI n ≤ nI i := nI_ge hi (by omega)
      have a1 := hF i hi
      have a2 := hg.1 i hi
      have a3 := hO (g i) a2
      have ect : ct 1 M w g i + w (g i) * M * (i + 1) = ct 1 M w g (i + 1) := by
        show _ = ct 1 M w g i + w (g i) * (i / 1 + 1) * M
        rw [Nat.mul_right_comm, Nat.div_one]
      have hr : ¬ nI 1 = 2 := by decide
      refine vc_wp (T := TT []) TTn (fun _ => false) (rt0 := some .int) rfl (ckl_drop 4 c116) rfl ?_
      simp (disch := omega) only [List.drop, i116, wp_iinc, wpE0, wpE1, wpE2, wpE3, wpE4, wpE5, wpJ, okS, lt4S, popR, litS, Int32.reduceLT, Int32.reduceLE, List.getElem?_cons_zero, List.getElem?_cons_succ, Bool.false_eq_true, ↓reduceIte, Nat.reduceMod, Nat.reduceDiv, Nat.reduceAdd, Nat.reduceSub, Nat.reduceMul, Nat.reduceLeDiff, Nat.reduceEqDiff, Nat.reduceBEq, Int.reduceToNat, Int.reduceAdd, Int32.reduceOfInt, Int64.reduceOfInt, Int32.reduceToNatClampNeg, Int32.reduceOfNat, Bool.or_self, Bool.or_false, Bool.false_or, Bool.true_or, Bool.or_true, true_and, and_true, false_and, and_false, List.set_cons_zero, List.set_cons_succ, List.take_succ_cons, List.take_zero, List.drop_succ_cons, List.drop_zero, List.reverse_cons, List.reverse_nil, List.nil_append, List.cons_append, List.length_cons, List.length_nil, Option.toList_some, Option.toList_none, not_true_eq_false, not_false_eq_true, forall_const, true_implies, false_implies, nrw, TTS, shO, sh7L, and01, bI_0, bI_and, isCl, isRl, cmpS, toLS, toL_le, toL_lt, i2lS, inM, Int64.reduceLE, Int64.reduceLT, xa_1, xa_2, xa_xa, upd_at, updU, Nat.reduceEqDiff, ↓reduceIte, not_true_eq_false, not_false_eq_true, and_true, true_and, and_false, false_and, and_self, or_true, true_or, or_false, false_or, ↓reduceIte, if_true, if_false, eq_self, clN, inN, linS, nI_add, pk_mul, pk_div, h81, subS, hi2, hr, a1, a3, nI_1, ect, not_true_eq_false, not_false_eq_true, and_true, true_and, and_false, false_and, and_self, or_true, true_or, or_false, false_or, ↓reduceIte, if_true, if_false, eq_self]
    · have hi2 : nI n ≤ nI n := Int32.le_refl _
      refine vc_wp (T := TT []) TTn (fun _ => false) (rt0 := some .int) rfl (ckl_drop 4 c116) rfl ?_
      simp (disch := omega) only [List.drop, i116, wp_iinc, wpE0, wpE1, wpE2, wpE3, wpE4, wpE5, wpJ, okS, lt4S, popR, litS, Int32.reduceLT, Int32.reduceLE, List.getElem?_cons_zero, List.getElem?_cons_succ, Bool.false_eq_true, ↓reduceIte, Nat.reduceMod, Nat.reduceDiv, Nat.reduceAdd, Nat.reduceSub, Nat.reduceMul, Nat.reduceLeDiff, Nat.reduceEqDiff, Nat.reduceBEq, Int.reduceToNat, Int.reduceAdd, Int32.reduceOfInt, Int64.reduceOfInt, Int32.reduceToNatClampNeg, Int32.reduceOfNat, Bool.or_self, Bool.or_false, Bool.false_or, Bool.true_or, Bool.or_true, true_and, and_true, false_and, and_false, List.set_cons_zero, List.set_cons_succ, List.take_succ_cons, List.take_zero, List.drop_succ_cons, List.drop_zero, List.reverse_cons, List.reverse_nil, List.nil_append, List.cons_append, List.length_cons, List.length_nil, Option.toList_some, Option.toList_none, not_true_eq_false, not_false_eq_true, forall_const, true_implies, false_implies, nrw, TTS, shO, sh7L, and01, bI_0, bI_and, isCl, isRl, cmpS, toLS, toL_le, toL_lt, i2lS, inM, Int64.reduceLE, Int64.reduceLT, xa_1, xa_2, xa_xa, upd_at, updU, Nat.reduceEqDiff, ↓reduceIte, not_true_eq_false, not_false_eq_true, and_true, true_and, and_false, false_and, and_self, or_true, true_or, or_false, false_or, ↓reduceIte, if_true, if_false, eq_self, clN, inN, linS, nI_add, pk_mul, pk_div, h81, hi2, not_true_eq_false, not_false_eq_true, and_true, true_and, and_false, false_and, and_self, or_true, true_or, or_false, false_or, ↓reduceIte, if_true, if_false, eq_self]
      exact h
  · refine tri_vc (ls := [.ref 81, .int (nI 2), .int (nI M), .null, .null, .null]) (by decide +kernel) rfl (Nat.le_of_ble_eq_true rfl) ?_
    refine vc_seq (pc1 := 5) (ls1 := [.ref 81, .int (nI 2), .int (nI M), .int 0, .int 0, .null]) (m1 := m) (vc_wp (T := TT []) TTn (fun p => p == 5) (rt0 := some .int) rfl c116 rfl ?_) ?_
    · simp (disch := omega) only [i116, wp_iinc, wpE0, wpE1, wpE2, wpE3, wpE4, wpE5, wpJ, okS, lt4S, popR, litS, Int32.reduceLT, Int32.reduceLE, List.getElem?_cons_zero, List.getElem?_cons_succ, Bool.false_eq_true, ↓reduceIte, Nat.reduceMod, Nat.reduceDiv, Nat.reduceAdd, Nat.reduceSub, Nat.reduceMul, Nat.reduceLeDiff, Nat.reduceEqDiff, Nat.reduceBEq, Int.reduceToNat, Int.reduceAdd, Int32.reduceOfInt, Int64.reduceOfInt, Int32.reduceToNatClampNeg, Int32.reduceOfNat, Bool.or_self, Bool.or_false, Bool.false_or, Bool.true_or, Bool.or_true, true_and, and_true, false_and, and_false, List.set_cons_zero, List.set_cons_succ, List.take_succ_cons, List.take_zero, List.drop_succ_cons, List.drop_zero, List.reverse_cons, List.reverse_nil, List.nil_append, List.cons_append, List.length_cons, List.length_nil, Option.toList_some, Option.toList_none, not_true_eq_false, not_false_eq_true, forall_const, true_implies, false_implies, nrw, TTS, shO, sh7L, and01, bI_0, bI_and, isCl, isRl, cmpS, toLS, toL_le, toL_lt, i2lS, inM, Int64.reduceLE, Int64.reduceLT, xa_1, xa_2, xa_xa, upd_at, updU, Nat.reduceEqDiff, ↓reduceIte, not_true_eq_false, not_false_eq_true, and_true, true_and, and_false, false_and, and_self, or_true, true_or, or_false, false_or, ↓reduceIte, if_true, if_false, eq_self, clN, inN, linS, nI_add, pk_mul, pk_div, h81, subS, not_true_eq_false, not_false_eq_true, and_true, true_and, and_false, false_and, and_self, or_true, true_or, or_false, false_or, ↓reduceIte, if_true, if_false, eq_self]
    refine vc_for n (fun i => [.ref 81, .int (nI 2), .int (nI M), .int (nI (ct 2 M w g i)), .int (nI i), .null]) (fun _ => m) (fun i hi => ?_) ?_
    · have hi2 : ¬ nI n ≤ nI i := nI_ge hi (by omega)
      have a1 := hF i hi
      have a2 := hg.1 i hi
      have a3 := hO (g i) a2
      have ect : ct 2 M w g i + w (g i) * M * (i / 2 + 1) = ct 2 M w g (i + 1) := by
        show _ = ct 2 M w g i + w (g i) * (i / 2 + 1) * M
        rw [Nat.mul_right_comm]
      have hr : nI 2 = 2 := rfl
      have hd2 : nI i / 2 = nI (i / 2) := pk_div (d := 2) (by omega) (by omega) (by omega)
      refine vc_wp (T := TT []) TTn (fun _ => false) (rt0 := some .int) rfl (ckl_drop 4 c116) rfl ?_
      simp (disch := omega) only [List.drop, i116, wp_iinc, wpE0, wpE1, wpE2, wpE3, wpE4, wpE5, wpJ, okS, lt4S, popR, litS, Int32.reduceLT, Int32.reduceLE, List.getElem?_cons_zero, List.getElem?_cons_succ, Bool.false_eq_true, ↓reduceIte, Nat.reduceMod, Nat.reduceDiv, Nat.reduceAdd, Nat.reduceSub, Nat.reduceMul, Nat.reduceLeDiff, Nat.reduceEqDiff, Nat.reduceBEq, Int.reduceToNat, Int.reduceAdd, Int32.reduceOfInt, Int64.reduceOfInt, Int32.reduceToNatClampNeg, Int32.reduceOfNat, Bool.or_self, Bool.or_false, Bool.false_or, Bool.true_or, Bool.or_true, true_and, and_true, false_and, and_false, List.set_cons_zero, List.set_cons_succ, List.take_succ_cons, List.take_zero, List.drop_succ_cons, List.drop_zero, List.reverse_cons, List.reverse_nil, List.nil_append, List.cons_append, List.length_cons, List.length_nil, Option.toList_some, Option.toList_none, not_true_eq_false, not_false_eq_true, forall_const, true_implies, false_implies, nrw, TTS, shO, sh7L, and01, bI_0, bI_and, isCl, isRl, cmpS, toLS, toL_le, toL_lt, i2lS, inM, Int64.reduceLE, Int64.reduceLT, xa_1, xa_2, xa_xa, upd_at, updU, Nat.reduceEqDiff, ↓reduceIte, not_true_eq_false, not_false_eq_true, and_true, true_and, and_false, false_and, and_self, or_true, true_or, or_false, false_or, ↓reduceIte, if_true, if_false, eq_self, clN, inN, linS, nI_add, pk_mul, pk_div, h81, subS, hi2, hr, hd2, a1, a3, nI_1, ect, not_true_eq_false, not_false_eq_true, and_true, true_and, and_false, false_and, and_self, or_true, true_or, or_false, false_or, ↓reduceIte, if_true, if_false, eq_self]
    · have hi2 : nI n ≤ nI n := Int32.le_refl _
      refine vc_wp (T := TT []) TTn (fun _ => false) (rt0 := some .int) rfl (ckl_drop 4 c116) rfl ?_
      simp (disch := omega) only [List.drop, i116, wp_iinc, wpE0, wpE1, wpE2, wpE3, wpE4, wpE5, wpJ, okS, lt4S, popR, litS, Int32.reduceLT, Int32.reduceLE, List.getElem?_cons_zero, List.getElem?_cons_succ, Bool.false_eq_true, ↓reduceIte, Nat.reduceMod, Nat.reduceDiv, Nat.reduceAdd, Nat.reduceSub, Nat.reduceMul, Nat.reduceLeDiff, Nat.reduceEqDiff, Nat.reduceBEq, Int.reduceToNat, Int.reduceAdd, Int32.reduceOfInt, Int64.reduceOfInt, Int32.reduceToNatClampNeg, Int32.reduceOfNat, Bool.or_self, Bool.or_false, Bool.false_or, Bool.true_or, Bool.or_true, true_and, and_true, false_and, and_false, List.set_cons_zero, List.set_cons_succ, List.take_succ_cons, List.take_zero, List.drop_succ_cons, List.drop_zero, List.reverse_cons, List.reverse_nil, List.nil_append, List.cons_append, List.length_cons, List.length_nil, Option.toList_some, Option.toList_none, not_true_eq_false, not_false_eq_true, forall_const, true_implies, false_implies, nrw, TTS, shO, sh7L, and01, bI_0, bI_and, isCl, isRl, cmpS, toLS, toL_le, toL_lt, i2lS, inM, Int64.reduceLE, Int64.reduceLT, xa_1, xa_2, xa_xa, upd_at, updU, Nat.reduceEqDiff, ↓reduceIte, not_true_eq_false, not_false_eq_true, and_true, true_and, and_false, false_and, and_self, or_true, true_or, or_false, false_or, ↓reduceIte, if_true, if_false, eq_self, clN, inN, linS, nI_add, pk_mul, pk_div, h81, hi2, not_true_eq_false, not_false_eq_true, and_true, true_and, and_false, false_and, and_self, or_true, true_or, or_false, false_or, ↓reduceIte, if_true, if_false, eq_self]
      exact h

