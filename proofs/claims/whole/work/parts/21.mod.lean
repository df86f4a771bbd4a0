/-- the Model's rows hold the same -/
def EK (k : KK) (K : Nat → Int32) : Prop := (kWa k = K 0 ∧ kWi k = K 1 ∧ kMu k = K 2 ∧ kNb k = K 3 ∧ kNh k = K 4) ∧ (∀ b, b < ix (K 3) → kBe k b = K (5 + 4 * b + 0) ∧ kSa k b = K (5 + 4 * b + 1) ∧ kAi k b = K (5 + 4 * b + 2) ∧ kFl k b = K (5 + 4 * b + 3)) ∧ (∀ h, h < ix (K 4) → kBo k h = K (29 + 3 * h + 0) ∧ kWe k h = K (29 + 3 * h + 1) ∧ kLa k h = K (29 + 3 * h + 2))
def E6 (N : Nat) (X : X6) (f : Nat → Int32) : Prop := (∀ b, b < 6 → xHo X b = f (4 * b + 0) ∧ xMa X b = f (4 * b + 1) ∧ xWa X b = f (4 * b + 2) ∧ xSi X b = f (4 * b + 3)) ∧ (∀ h, h < N → xSp X h = f (24 + 2 * h) ∧ xGr X h = f (24 + 2 * h + 1))
theorem upd_ne {f : Nat → Int32} {i j : Nat} {x : Int32} (h : j ≠ i) : upd f i x j = f j := if_neg h
theorem upd_eq {f : Nat → Int32} {i j : Nat} {x : Int32} (h : j = i) : upd f i x j = x := if_pos h
/-- every second place from 24 + d on, i of them -/
def sm2 (f g : Nat → Int32) (d i : Nat) : Nat → Int32 := fun j => if 24 + d ≤ j ∧ (j - 24 - d) % 2 = 0 ∧ (j - 24 - d) / 2 < i then g ((j - 24 - d) / 2) else f j
theorem sm2_0 (f g : Nat → Int32) (d : Nat) : sm2 f g d 0 = f := by funext j; simp [sm2]
theorem sm2_in {f g : Nat → Int32} {d i h j : Nat} (hh : h < i) (hj : j = 24 + 2 * h + d) : sm2 f g d i j = g h := by
  subst hj
  unfold sm2
  rw [if_pos (by omega), show (24 + 2 * h + d - 24 - d) / 2 = h by omega]
theorem sm2_out {f g : Nat → Int32} {d i j : Nat} (hj : ∀ h, h < i → j ≠ 24 + 2 * h + d) : sm2 f g d i j = f j := by
  unfold sm2
  rw [if_neg]
  intro ⟨h1, h2, h3⟩
  exact hj ((j - 24 - d) / 2) h3 (by omega)
theorem sm2_s {f g : Nat → Int32} {d i j : Nat} {x : Int32} (hj : j = 24 + 2 * i + d) (e : g i = x) : upd (sm2 f g d i) j x = sm2 f g d (i + 1) := by
  subst hj
  funext q
  by_cases hq : q = 24 + 2 * i + d
  · rw [upd_eq hq, sm2_in (h := i) (by omega) hq, e]
  · rw [upd_ne hq]
    by_cases h2 : ∃ h, h < i ∧ q = 24 + 2 * h + d
    · obtain ⟨h, h3, h4⟩ := h2
      rw [sm2_in h3 h4, sm2_in (i := i + 1) (by omega) h4]
    · rw [sm2_out (fun h h3 h4 => h2 ⟨h, h3, h4⟩), sm2_out (fun h h3 h4 => ?_)]
      by_cases h5 : h = i
      · rw [h5] at h4; exact hq h4
      · exact h2 ⟨h, by omega, h4⟩
theorem sm2_k {f g : Nat → Int32} {d i j : Nat} (hj : j = 24 + 2 * i + d) (e : g i = f j) : sm2 f g d i = sm2 f g d (i + 1) := by
  rw [← sm2_s hj e]
  funext q
  by_cases hq : q = j
  · rw [upd_eq hq, hq, sm2_out (by intros; omega)]
  · rw [upd_ne hq]
theorem sm2_i0 (f g : Nat → Int32) (i : Nat) : sm2 f g 0 i (24 + 2 * i) = f (24 + 2 * i) := sm2_out (by intros; omega)
theorem sm2_i1 (f g : Nat → Int32) (i : Nat) : sm2 f g 1 i (24 + 2 * i + 1) = f (24 + 2 * i + 1) := sm2_out (by intros; omega)
theorem sm2_p (f g : Nat → Int32) (i h : Nat) : sm2 f g 1 i (24 + 2 * h) = f (24 + 2 * h) := sm2_out (by intros; omega)
theorem sm2_q (f g : Nat → Int32) (i h : Nat) : sm2 f g 0 i (24 + 2 * h + 1) = f (24 + 2 * h + 1) := sm2_out (by intros; omega)
theorem sm2_lo {f g : Nat → Int32} {d i j : Nat} (h : j < 24) : sm2 f g d i j = f j := sm2_out (by intros; omega)
theorem sm2_hi {f g : Nat → Int32} {d i j : Nat} (h : 48 ≤ j) (hi : i ≤ 12) (hd : d ≤ 1) : sm2 f g d i j = f j := sm2_out (by intros; omega)
theorem e_ho {N : Nat} {X : X6} {f : Nat → Int32} {b : Nat} {v : Int32} (h : E6 N X f) (hb : b < 6) : E6 N (upd X.1 b v, X.2) (upd f (4 * b + 0) v) := by
  refine ⟨fun b' hb' => ?_, fun h' hh => ⟨?_, ?_⟩⟩
  · obtain ⟨h1, h2, h3, h4⟩ := h.1 b' hb'
    refine ⟨?_, by rw [upd_ne (by omega)]; exact h2, by rw [upd_ne (by omega)]; exact h3, by rw [upd_ne (by omega)]; exact h4⟩
    by_cases e : b' = b
    · rw [upd_eq (by omega)]; exact upd_eq e
    · rw [upd_ne (by omega)]; exact (upd_ne e).trans h1
  · rw [upd_ne (by omega)]; exact (h.2 h' hh).1
  · rw [upd_ne (by omega)]; exact (h.2 h' hh).2
theorem e_ma {N : Nat} {X : X6} {f : Nat → Int32} {b : Nat} {v : Int32} (h : E6 N X f) (hb : b < 6) : E6 N (X.1, upd X.2.1 b v, X.2.2) (upd f (4 * b + 1) v) := by
  refine ⟨fun b' hb' => ?_, fun h' hh => ⟨?_, ?_⟩⟩
  · obtain ⟨h1, h2, h3, h4⟩ := h.1 b' hb'
    refine ⟨by rw [upd_ne (by omega)]; exact h1, ?_, by rw [upd_ne (by omega)]; exact h3, by rw [upd_ne (by omega)]; exact h4⟩
    by_cases e : b' = b
    · rw [upd_eq (by omega)]; exact upd_eq e
    · rw [upd_ne (by omega)]; exact (upd_ne e).trans h2
  · rw [upd_ne (by omega)]; exact (h.2 h' hh).1
  · rw [upd_ne (by omega)]; exact (h.2 h' hh).2
theorem e_wa {N : Nat} {X : X6} {f : Nat → Int32} {b : Nat} {v : Int32} (h : E6 N X f) (hb : b < 6) : E6 N (X.1, X.2.1, upd X.2.2.1 b v, X.2.2.2) (upd f (4 * b + 2) v) := by
  refine ⟨fun b' hb' => ?_, fun h' hh => ⟨?_, ?_⟩⟩
  · obtain ⟨h1, h2, h3, h4⟩ := h.1 b' hb'
    refine ⟨by rw [upd_ne (by omega)]; exact h1, by rw [upd_ne (by omega)]; exact h2, ?_, by rw [upd_ne (by omega)]; exact h4⟩
    by_cases e : b' = b
    · rw [upd_eq (by omega)]; exact upd_eq e
    · rw [upd_ne (by omega)]; exact (upd_ne e).trans h3
  · rw [upd_ne (by omega)]; exact (h.2 h' hh).1
  · rw [upd_ne (by omega)]; exact (h.2 h' hh).2
theorem e_si {N : Nat} {X : X6} {f : Nat → Int32} {b : Nat} {v : Int32} (h : E6 N X f) (hb : b < 6) : E6 N (X.1, X.2.1, X.2.2.1, upd X.2.2.2.1 b v, X.2.2.2.2) (upd f (4 * b + 3) v) := by
  refine ⟨fun b' hb' => ?_, fun h' hh => ⟨?_, ?_⟩⟩
  · obtain ⟨h1, h2, h3, h4⟩ := h.1 b' hb'
    refine ⟨by rw [upd_ne (by omega)]; exact h1, by rw [upd_ne (by omega)]; exact h2, by rw [upd_ne (by omega)]; exact h3, ?_⟩
    by_cases e : b' = b
    · rw [upd_eq (by omega)]; exact upd_eq e
    · rw [upd_ne (by omega)]; exact (upd_ne e).trans h4
  · rw [upd_ne (by omega)]; exact (h.2 h' hh).1
  · rw [upd_ne (by omega)]; exact (h.2 h' hh).2
theorem e_sp {N : Nat} {X : X6} {f g g' : Nat → Int32} {n : Nat} (h : E6 N X f) (hn : n ≤ 12) (hg : ∀ h, h < n → g h = g' h) : E6 N (X.1, X.2.1, X.2.2.1, X.2.2.2.1, mapF (xSp X) g n, X.2.2.2.2.2) (sm2 f g' 0 n) := by
  refine ⟨fun b' hb' => ?_, fun h' hh => ⟨?_, ?_⟩⟩
  · obtain ⟨h1, h2, h3, h4⟩ := h.1 b' hb'
    exact ⟨by rw [sm2_lo (by omega)]; exact h1, by rw [sm2_lo (by omega)]; exact h2, by rw [sm2_lo (by omega)]; exact h3, by rw [sm2_lo (by omega)]; exact h4⟩
  · show mapF (xSp X) g n h' = _
    unfold mapF
    by_cases e : h' < n
    · rw [if_pos e, sm2_in (d := 0) (j := 24 + 2 * h') e rfl, hg h' e]
    · rw [if_neg e, sm2_out (by intros; omega)]; exact (h.2 h' hh).1
  · rw [sm2_q]; exact (h.2 h' hh).2
theorem e_gr {N : Nat} {X : X6} {f g g' : Nat → Int32} {n : Nat} (h : E6 N X f) (hn : n ≤ 12) (hg : ∀ h, h < n → g h = g' h) : E6 N (X.1, X.2.1, X.2.2.1, X.2.2.2.1, X.2.2.2.2.1, mapF (xGr X) g n) (sm2 f g' 1 n) := by
  refine ⟨fun b' hb' => ?_, fun h' hh => ⟨?_, ?_⟩⟩
  · obtain ⟨h1, h2, h3, h4⟩ := h.1 b' hb'
    exact ⟨by rw [sm2_lo (by omega)]; exact h1, by rw [sm2_lo (by omega)]; exact h2, by rw [sm2_lo (by omega)]; exact h3, by rw [sm2_lo (by omega)]; exact h4⟩
  · rw [sm2_p]; exact (h.2 h' hh).1
  · show mapF (xGr X) g n h' = _
    unfold mapF
    by_cases e : h' < n
    · rw [if_pos e, sm2_in (d := 1) (j := 24 + 2 * h' + 1) e rfl, hg h' e]
    · rw [if_neg e, sm2_out (by intros; omega)]; exact (h.2 h' hh).2

theorem neR {r : Nat} (h : isR r) : (90 = r) = False ∧ (r = 90) = False ∧ (86 = r) = False := by rcases h with rfl | rfl <;> simp
def S179 (as : List Value) (m : xM) (Q : xQt) : Prop := match as with
  | [.ref o, .ref r, .int b, .int f, .int t] => (o = 86) ∧ (isR r) ∧ (m.1 90 4 ≤ 12) ∧ Q (none) (xa m r (sm2 (m.1 r) (fun h => if m.1 90 (29 + 3 * h + 0) = b ∧ m.1 r (24 + 2 * h) = f then t else m.1 r (24 + 2 * h)) 0 (ix (m.1 90 4))))
  | _ => False
theorem s179 (o : Nat) (r : Nat) (b : Int32) (f : Int32) (t : Int32) (m : xM) (Q : xQt) : S179 [.ref o, .ref r, .int b, .int f, .int t] m Q = ((o = 86) ∧ (isR r) ∧ (m.1 90 4 ≤ 12) ∧ Q (none) (xa m r (sm2 (m.1 r) (fun h => if m.1 90 (29 + 3 * h + 0) = b ∧ m.1 r (24 + 2 * h) = f then t else m.1 r (24 + 2 * h)) 0 (ix (m.1 90 4))))) := rfl
theorem t179 {G : xG} : ∀ as m Q, S179 as m Q → Tri G 179 as m Q := by
  intro as m Q h
  match as, h with
  | [.ref o, .ref r, .int b, .int f, .int t], h =>
    obtain ⟨rfl, hr, hn, h⟩ := h
    refine tri_vc (ls := [.ref 86, .ref r, .int b, .int f, .int t, .null]) (by decide +kernel) rfl (Nat.le_of_ble_eq_true rfl) ?_
    refine vc_seq (pc1 := 3) (ls1 := [.ref 86, .ref r, .int b, .int f, .int t, .int 0]) (m1 := xa m r (sm2 (m.1 r) (fun h => if m.1 90 (29 + 3 * h + 0) = b ∧ m.1 r (24 + 2 * h) = f then t else m.1 r (24 + 2 * h)) 0 0)) (vc_wp (T := TT [(180, S180), (181, S181)]) (TTc t180 (TTc t181 TTn)) (fun p => p == 3) (rt0 := none) rfl c179 rfl ?_) ?_
    · simp only [i179, wp_iinc, wpE0, wpE1, wpE2, wpE3, wpE4, wpE5, wpJ, okS, lt4S, popR, litS, Int32.reduceLT, Int32.reduceLE, List.getElem?_cons_zero, List.getElem?_cons_succ, Bool.false_eq_true, ↓reduceIte, Nat.reduceMod, Nat.reduceDiv, Nat.reduceAdd, Nat.reduceSub, Nat.reduceMul, Nat.reduceLeDiff, Nat.reduceEqDiff, Nat.reduceBEq, Int.reduceToNat, Int.reduceAdd, Int32.reduceOfInt, Int64.reduceOfInt, Int32.reduceToNatClampNeg, Int32.reduceOfNat, Bool.or_self, Bool.or_false, Bool.false_or, Bool.true_or, Bool.or_true, true_and, and_true, false_and, and_false, List.set_cons_zero, List.set_cons_succ, List.take_succ_cons, List.take_zero, List.drop_succ_cons, List.drop_zero, List.reverse_cons, List.reverse_nil, List.nil_append, List.cons_append, List.length_cons, List.length_nil, Option.toList_some, Option.toList_none, not_true_eq_false, not_false_eq_true, forall_const, true_implies, false_implies, nrw, TTS, s180, s181, s174, i180, i181, i174, shM, isRl, and01, bI_0, linS, nI_add, clN, inN, inLS, shR hr, neR hr, hr, hn, subS, true_and, and_true, or_false]
      rw [sm2_0, xa_id]
    refine vc_for (ix (m.1 90 4)) (fun i => [.ref 86, .ref r, .int b, .int f, .int t, .int (nI i)]) (fun i => xa m r (sm2 (m.1 r) (fun h => if m.1 90 (29 + 3 * h + 0) = b ∧ m.1 r (24 + 2 * h) = f then t else m.1 r (24 + 2 * h)) 0 i)) (fun i hi => ?_) ?_
    · refine vc_wp (T := TT [(180, S180), (181, S181)]) (TTc t180 (TTc t181 TTn)) (fun _ => false) (rt0 := none) rfl (ckl_drop 2 c179) rfl ?_
      have hi2 : ¬ ix (m.1 90 4) ≤ i := by omega
      have hi12 : i < 12 := by have := ix_max (k := 12) hn (by decide); omega
      
      simp (disch := omega) only [List.drop, i179, wp_iinc, wpE0, wpE1, wpE2, wpE3, wpE4, wpE5, wpJ, okS, lt4S, popR, litS, Int32.reduceLT, Int32.reduceLE, List.getElem?_cons_zero, List.getElem?_cons_succ, Bool.false_eq_true, ↓reduceIte, Nat.reduceMod, Nat.reduceDiv, Nat.reduceAdd, Nat.reduceSub, Nat.reduceMul, Nat.reduceLeDiff, Nat.reduceEqDiff, Nat.reduceBEq, Int.reduceToNat, Int.reduceAdd, Int32.reduceOfInt, Int64.reduceOfInt, Int32.reduceToNatClampNeg, Int32.reduceOfNat, Bool.or_self, Bool.or_false, Bool.false_or, Bool.true_or, Bool.or_true, true_and, and_true, false_and, and_false, List.set_cons_zero, List.set_cons_succ, List.take_succ_cons, List.take_zero, List.drop_succ_cons, List.drop_zero, List.reverse_cons, List.reverse_nil, List.nil_append, List.cons_append, List.length_cons, List.length_nil, Option.toList_some, Option.toList_none, not_true_eq_false, not_false_eq_true, forall_const, true_implies, false_implies, nrw, TTS, s180, s181, s174, i180, i181, i174, shM, isRl, and01, bI_0, linS, nI_add, clN, inN, inLS, shR hr, neR hr, hr, hn, subS, xa_1, xa_2, xa_xa, sm2_i0, sm2_i1, sm2_p, sm2_lo,  ix_le _ (show i < 2 ^ 31 by omega), hi2, not_true_eq_false, not_false_eq_true, and_true, true_and, and_false, false_and, and_self, or_true, true_or, or_false, false_or, ↓reduceIte, if_true, if_false, eq_self, nI_1]
      repeat' (first | apply And.intro | intro _)
      all_goals first | (rw [sm2_s (d := 0) (j := 24 + 2 * i) rfl (by simp only [*, not_true_eq_false, not_false_eq_true, and_true, true_and, and_false, false_and, and_self, or_true, true_or, or_false, false_or, ↓reduceIte, if_true, if_false, eq_self])]; done) | (rw [← sm2_k (d := 0) (j := 24 + 2 * i) rfl (by simp only [*, not_true_eq_false, not_false_eq_true, and_true, true_and, and_false, false_and, and_self, or_true, true_or, or_false, false_or, ↓reduceIte, if_true, if_false, eq_self])]; done)
    · refine vc_wp (T := TT [(180, S180), (181, S181)]) (TTc t180 (TTc t181 TTn)) (fun _ => false) (rt0 := none) rfl (ckl_drop 2 c179) rfl ?_
      have hi2 : ix (m.1 90 4) ≤ ix (m.1 90 4) := Nat.le_refl _
      have hi12 : ix (m.1 90 4) < 2 ^ 31 := by have := ix_max (k := 12) hn (by decide); omega
      simp (disch := omega) only [List.drop, i179, wp_iinc, wpE0, wpE1, wpE2, wpE3, wpE4, wpE5, wpJ, okS, lt4S, popR, litS, Int32.reduceLT, Int32.reduceLE, List.getElem?_cons_zero, List.getElem?_cons_succ, Bool.false_eq_true, ↓reduceIte, Nat.reduceMod, Nat.reduceDiv, Nat.reduceAdd, Nat.reduceSub, Nat.reduceMul, Nat.reduceLeDiff, Nat.reduceEqDiff, Nat.reduceBEq, Int.reduceToNat, Int.reduceAdd, Int32.reduceOfInt, Int64.reduceOfInt, Int32.reduceToNatClampNeg, Int32.reduceOfNat, Bool.or_self, Bool.or_false, Bool.false_or, Bool.true_or, Bool.or_true, true_and, and_true, false_and, and_false, List.set_cons_zero, List.set_cons_succ, List.take_succ_cons, List.take_zero, List.drop_succ_cons, List.drop_zero, List.reverse_cons, List.reverse_nil, List.nil_append, List.cons_append, List.length_cons, List.length_nil, Option.toList_some, Option.toList_none, not_true_eq_false, not_false_eq_true, forall_const, true_implies, false_implies, nrw, TTS, s180, s181, s174, i180, i181, i174, shM, isRl, and01, bI_0, linS, nI_add, clN, inN, inLS, shR hr, neR hr, hr, hn, subS, xa_1,  ix_le _ hi12, hi2, not_true_eq_false, not_false_eq_true, and_true, true_and, and_false, false_and, and_self, or_true, true_or, or_false, false_or, ↓reduceIte, if_true, if_false, eq_self]
      exact h

def S195 (as : List Value) (m : xM) (Q : xQt) : Prop := match as with
  | [.ref o, .ref r, .int b] => (o = 86) ∧ (isR r) ∧ (m.1 90 4 ≤ 12) ∧ (vp_in b 6) ∧ (∀ h, h < ix (m.1 90 4) → ¬ 6 * m.1 90 (29 + 3 * h + 2) = 0) ∧ Q (none) (xa m r (sm2 (m.1 r) (fun h => if m.1 90 (29 + 3 * h + 0) = b ∧ (¬ m.1 r (24 + 2 * h) = 0 ∨ m.1 r (4 * ix b + 0) = 4) then (if 0 ≤ m.1 r (24 + 2 * h + 1) - (if 10 ≤ m.1 90 0 then 1000 / (6 * m.1 90 (29 + 3 * h + 2)) else 1000 / (6 * m.1 90 (29 + 3 * h + 2)) + 1000 / (6 * m.1 90 (29 + 3 * h + 2)) / 2) then m.1 r (24 + 2 * h + 1) - (if 10 ≤ m.1 90 0 then 1000 / (6 * m.1 90 (29 + 3 * h + 2)) else 1000 / (6 * m.1 90 (29 + 3 * h + 2)) + 1000 / (6 * m.1 90 (29 + 3 * h + 2)) / 2) else 0) else m.1 r (24 + 2 * h + 1)) 1 (ix (m.1 90 4))))
  | _ => False
theorem s195 (o : Nat) (r : Nat) (b : Int32) (m : xM) (Q : xQt) : S195 [.ref o, .ref r, .int b] m Q = ((o = 86) ∧ (isR r) ∧ (m.1 90 4 ≤ 12) ∧ (vp_in b 6) ∧ (∀ h, h < ix (m.1 90 4) → ¬ 6 * m.1 90 (29 + 3 * h + 2) = 0) ∧ Q (none) (xa m r (sm2 (m.1 r) (fun h => if m.1 90 (29 + 3 * h + 0) = b ∧ (¬ m.1 r (24 + 2 * h) = 0 ∨ m.1 r (4 * ix b + 0) = 4) then (if 0 ≤ m.1 r (24 + 2 * h + 1) - (if 10 ≤ m.1 90 0 then 1000 / (6 * m.1 90 (29 + 3 * h + 2)) else 1000 / (6 * m.1 90 (29 + 3 * h + 2)) + 1000 / (6 * m.1 90 (29 + 3 * h + 2)) / 2) then m.1 r (24 + 2 * h + 1) - (if 10 ≤ m.1 90 0 then 1000 / (6 * m.1 90 (29 + 3 * h + 2)) else 1000 / (6 * m.1 90 (29 + 3 * h + 2)) + 1000 / (6 * m.1 90 (29 + 3 * h + 2)) / 2) else 0) else m.1 r (24 + 2 * h + 1)) 1 (ix (m.1 90 4))))) := rfl
theorem t195 {G : xG} : ∀ as m Q, S195 as m Q → Tri G 195 as m Q := by
  intro as m Q h
  match as, h with
  | [.ref o, .ref r, .int b], h =>
    obtain ⟨rfl, hr, hn, hb, hL, h⟩ := h
    refine tri_vc (ls := [.ref 86, .ref r, .int b, .null, .null]) (by decide +kernel) rfl (Nat.le_of_ble_eq_true rfl) ?_
    obtain ⟨j, hj, rfl⟩ := vp_in_of hb (by decide)
    simp (disch := omega) only [clN] at h
    refine vc_seq (pc1 := 2) (ls1 := [.ref 86, .ref r, .int (nI j), .int 0, .null]) (m1 := xa m r (sm2 (m.1 r) (fun h => if m.1 90 (29 + 3 * h + 0) = nI j ∧ (¬ m.1 r (24 + 2 * h) = 0 ∨ m.1 r (4 * j + 0) = 4) then (if 0 ≤ m.1 r (24 + 2 * h + 1) - (if 10 ≤ m.1 90 0 then 1000 / (6 * m.1 90 (29 + 3 * h + 2)) else 1000 / (6 * m.1 90 (29 + 3 * h + 2)) + 1000 / (6 * m.1 90 (29 + 3 * h + 2)) / 2) then m.1 r (24 + 2 * h + 1) - (if 10 ≤ m.1 90 0 then 1000 / (6 * m.1 90 (29 + 3 * h + 2)) else 1000 / (6 * m.1 90 (29 + 3 * h + 2)) + 1000 / (6 * m.1 90 (29 + 3 * h + 2)) / 2) else 0) else m.1 r (24 + 2 * h + 1)) 1 0)) (vc_wp (T := TT [(180, S180), (181, S181), (196, S196)]) (TTc t180 (TTc t181 (TTc t196 TTn))) (fun p => p == 2) (rt0 := none) rfl c195 rfl ?_) ?_
    · simp only [i195, wp_iinc, wpE0, wpE1, wpE2, wpE3, wpE4, wpE5, wpJ, okS, lt4S, popR, litS, Int32.reduceLT, Int32.reduceLE, List.getElem?_cons_zero, List.getElem?_cons_succ, Bool.false_eq_true, ↓reduceIte, Nat.reduceMod, Nat.reduceDiv, Nat.reduceAdd, Nat.reduceSub, Nat.reduceMul, Nat.reduceLeDiff, Nat.reduceEqDiff, Nat.reduceBEq, Int.reduceToNat, Int.reduceAdd, Int32.reduceOfInt, Int64.reduceOfInt, Int32.reduceToNatClampNeg, Int32.reduceOfNat, Bool.or_self, Bool.or_false, Bool.false_or, Bool.true_or, Bool.or_true, true_and, and_true, false_and, and_false, List.set_cons_zero, List.set_cons_succ, List.take_succ_cons, List.take_zero, List.drop_succ_cons, List.drop_zero, List.reverse_cons, List.reverse_nil, List.nil_append, List.cons_append, List.length_cons, List.length_nil, Option.toList_some, Option.toList_none, not_true_eq_false, not_false_eq_true, forall_const, true_implies, false_implies, nrw, TTS, s180, s181, s196, s174, i180, i181, i196, i174, shM, isRl, and01, bI_0, linS, nI_add, clN, inN, inLS, shR hr, neR hr, hr, hn, hb, hL, subS, true_and, and_true, or_false]
      rw [sm2_0, xa_id]
    refine vc_for (ix (m.1 90 4)) (fun i => [.ref 86, .ref r, .int (nI j), .int (nI i), .null]) (fun i => xa m r (sm2 (m.1 r) (fun h => if m.1 90 (29 + 3 * h + 0) = nI j ∧ (¬ m.1 r (24 + 2 * h) = 0 ∨ m.1 r (4 * j + 0) = 4) then (if 0 ≤ m.1 r (24 + 2 * h + 1) - (if 10 ≤ m.1 90 0 then 1000 / (6 * m.1 90 (29 + 3 * h + 2)) else 1000 / (6 * m.1 90 (29 + 3 * h + 2)) + 1000 / (6 * m.1 90 (29 + 3 * h + 2)) / 2) then m.1 r (24 + 2 * h + 1) - (if 10 ≤ m.1 90 0 then 1000 / (6 * m.1 90 (29 + 3 * h + 2)) else 1000 / (6 * m.1 90 (29 + 3 * h + 2)) + 1000 / (6 * m.1 90 (29 + 3 * h + 2)) / 2) else 0) else m.1 r (24 + 2 * h + 1)) 1 i)) (fun i hi => ?_) ?_
    · refine vc_wp (T := TT [(180, S180), (181, S181), (196, S196)]) (TTc t180 (TTc t181 (TTc t196 TTn))) (fun _ => false) (rt0 := none) rfl (ckl_drop 2 c195) rfl ?_
      have hi2 : ¬ ix (m.1 90 4) ≤ i := by omega
      have hi12 : i < 12 := by have := ix_max (k := 12) hn (by decide); omega
      have hL1 := hL i hi
      simp (disch := omega) only [List.drop, i195, wp_iinc, wpE0, wpE1, wpE2, wpE3, wpE4, wpE5, wpJ, okS, lt4S, popR, litS, Int32.reduceLT, Int32.reduceLE, List.getElem?_cons_zero, List.getElem?_cons_succ, Bool.false_eq_true, ↓reduceIte, Nat.reduceMod, Nat.reduceDiv, Nat.reduceAdd, Nat.reduceSub, Nat.reduceMul, Nat.reduceLeDiff, Nat.reduceEqDiff, Nat.reduceBEq, Int.reduceToNat, Int.reduceAdd, Int32.reduceOfInt, Int64.reduceOfInt, Int32.reduceToNatClampNeg, Int32.reduceOfNat, Bool.or_self, Bool.or_false, Bool.false_or, Bool.true_or, Bool.or_true, true_and, and_true, false_and, and_false, List.set_cons_zero, List.set_cons_succ, List.take_succ_cons, List.take_zero, List.drop_succ_cons, List.drop_zero, List.reverse_cons, List.reverse_nil, List.nil_append, List.cons_append, List.length_cons, List.length_nil, Option.toList_some, Option.toList_none, not_true_eq_false, not_false_eq_true, forall_const, true_implies, false_implies, nrw, TTS, s180, s181, s196, s174, i180, i181, i196, i174, shM, isRl, and01, bI_0, linS, nI_add, clN, inN, inLS, shR hr, neR hr, hr, hn, hb, hL, subS, xa_1, xa_2, xa_xa, sm2_i0, sm2_i1, sm2_p, sm2_lo,  ix_le _ (show i < 2 ^ 31 by omega), hi2, not_true_eq_false, not_false_eq_true, and_true, true_and, and_false, false_and, and_self, or_true, true_or, or_false, false_or, ↓reduceIte, if_true, if_false, eq_self, nI_1]
      try simp only [hL1, not_true_eq_false, not_false_eq_true, and_true, true_and, and_false, false_and, and_self, or_true, true_or, or_false, false_or, ↓reduceIte, if_true, if_false, eq_self]
      repeat' (first | apply And.intro | intro _)
      all_goals first | (rw [sm2_s (d := 1) (j := 24 + 2 * i + 1) rfl (by simp only [*, not_true_eq_false, not_false_eq_true, and_true, true_and, and_false, false_and, and_self, or_true, true_or, or_false, false_or, ↓reduceIte, if_true, if_false, eq_self])]; done) | (rw [← sm2_k (d := 1) (j := 24 + 2 * i + 1) rfl (by simp only [*, not_true_eq_false, not_false_eq_true, and_true, true_and, and_false, false_and, and_self, or_true, true_or, or_false, false_or, ↓reduceIte, if_true, if_false, eq_self])]; done)
    · refine vc_wp (T := TT [(180, S180), (181, S181), (196, S196)]) (TTc t180 (TTc t181 (TTc t196 TTn))) (fun _ => false) (rt0 := none) rfl (ckl_drop 2 c195) rfl ?_
      have hi2 : ix (m.1 90 4) ≤ ix (m.1 90 4) := Nat.le_refl _
      have hi12 : ix (m.1 90 4) < 2 ^ 31 := by have := ix_max (k := 12) hn (by decide); omega
      simp (disch := omega) only [List.drop, i195, wp_iinc, wpE0, wpE1, wpE2, wpE3, wpE4, wpE5, wpJ, okS, lt4S, popR, litS, Int32.reduceLT, Int32.reduceLE, List.getElem?_cons_zero, List.getElem?_cons_succ, Bool.false_eq_true, ↓reduceIte, Nat.reduceMod, Nat.reduceDiv, Nat.reduceAdd, Nat.reduceSub, Nat.reduceMul, Nat.reduceLeDiff, Nat.reduceEqDiff, Nat.reduceBEq, Int.reduceToNat, Int.reduceAdd, Int32.reduceOfInt, Int64.reduceOfInt, Int32.reduceToNatClampNeg, Int32.reduceOfNat, Bool.or_self, Bool.or_false, Bool.false_or, Bool.true_or, Bool.or_true, true_and, and_true, false_and, and_false, List.set_cons_zero, List.set_cons_succ, List.take_succ_cons, List.take_zero, List.drop_succ_cons, List.drop_zero, List.reverse_cons, List.reverse_nil, List.nil_append, List.cons_append, List.length_cons, List.length_nil, Option.toList_some, Option.toList_none, not_true_eq_false, not_false_eq_true, forall_const, true_implies, false_implies, nrw, TTS, s180, s181, s196, s174, i180, i181, i196, i174, shM, isRl, and01, bI_0, linS, nI_add, clN, inN, inLS, shR hr, neR hr, hr, hn, hb, hL, subS, xa_1,  ix_le _ hi12, hi2, not_true_eq_false, not_false_eq_true, and_true, true_and, and_false, false_and, and_self, or_true, true_or, or_false, false_or, ↓reduceIte, if_true, if_false, eq_self]
      exact h
