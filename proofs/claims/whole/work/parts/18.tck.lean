theorem g6_xa (m : xM) (c : Nat) (f : Nat → Int32) : g6 (xa m (c + 5) f) c = (f, (g6 m c).2) ∧ g6 (xa m (c + 6) f) c = ((g6 m c).1, f, (g6 m c).2.2) ∧ g6 (xa m (c + 7) f) c = ((g6 m c).1, (g6 m c).2.1, f, (g6 m c).2.2.2) ∧ g6 (xa m (c + 8) f) c = ((g6 m c).1, (g6 m c).2.1, (g6 m c).2.2.1, f, (g6 m c).2.2.2.2) ∧ g6 (xa m (c + 12) f) c = ((g6 m c).1, (g6 m c).2.1, (g6 m c).2.2.1, (g6 m c).2.2.2.1, f, (g6 m c).2.2.2.2.2) ∧ g6 (xa m (c + 13) f) c = ((g6 m c).1, (g6 m c).2.1, (g6 m c).2.2.1, (g6 m c).2.2.2.1, (g6 m c).2.2.2.2.1, f) := by
  refine ⟨?_, ?_, ?_, ?_, ?_, ?_⟩ <;> simp [g6, xa_1]
theorem s6_xa (m : xM) (c : Nat) (f : Nat → Int32) (X : X6) : s6 (xa m (c + 5) f) c X = s6 m c X ∧ s6 (xa m (c + 6) f) c X = s6 m c X ∧ s6 (xa m (c + 7) f) c X = s6 m c X ∧ s6 (xa m (c + 8) f) c X = s6 m c X ∧ s6 (xa m (c + 12) f) c X = s6 m c X ∧ s6 (xa m (c + 13) f) c X = s6 m c X := by
  have key : ∀ k, (k = c + 5 ∨ k = c + 6 ∨ k = c + 7 ∨ k = c + 8 ∨ k = c + 12 ∨ k = c + 13) → s6 (xa m k f) c X = s6 m c X := by
    intro k hk
    obtain ⟨h1, h2, h3, h4, h5, h6, -⟩ := s6S (xa m k f) c X
    refine s6_eq h1 h2 h3 h4 h5 h6 (fun q e5 e6 e7 e8 e12 e13 => ?_) rfl
    simp only [s6, if_neg e5, if_neg e6, if_neg e7, if_neg e8, if_neg e12, if_neg e13, xa_1]
    rw [if_neg]
    rintro rfl
    rcases hk with h | h | h | h | h | h
    · exact e5 h
    · exact e6 h
    · exact e7 h
    · exact e8 h
    · exact e12 h
    · exact e13 h
  exact ⟨key _ (by simp), key _ (by simp), key _ (by simp), key _ (by simp), key _ (by simp), key _ (by simp)⟩
theorem xb_s6 (m : xM) (c d : Nat) (X : X6) (f : Nat → Int64) : xb (s6 m c X) d f = s6 (xb m d f) c X := rfl
theorem xb_xa (m : xM) (k d : Nat) (f : Nat → Int32) (g : Nat → Int64) : xb (xa m k f) d g = xa (xb m d g) k f := rfl
theorem xb_id (m : xM) (d : Nat) : xb m d (vp_updL (m.2 d) 1 (m.2 d 1)) = m := by
  refine Prod.ext rfl (funext fun q => ?_)
  show (if q = d then _ else m.2 q) = m.2 q
  by_cases h : q = d
  · subst h
    rw [if_pos rfl]
    funext j
    simp only [vp_updL]
    by_cases hj : j = 1
    · subst hj; simp
    · rw [if_neg hj]
  · rw [if_neg h]
theorem neCD {c d : Nat} (hc : isC c) (hd : isD d) : (d = c + 5) = False ∧ (d = c + 6) = False ∧ (d = c + 7) = False ∧ (d = c + 8) = False ∧ (d = c + 12) = False ∧ (d = c + 13) = False ∧ (d = c) = False := by
  rcases hc with rfl | rfl | rfl | rfl | rfl <;> rcases hd with rfl | rfl <;> decide
theorem s6D {m : xM} {c d : Nat} {X : X6} (hc : isC c) (hd : isD d) : (s6 m c X).1 d = m.1 d := s6_o (by rcases hc with rfl | rfl | rfl | rfl | rfl <;> rcases hd with rfl | rfl <;> decide)
theorem i2lS : (100 : Int32).toInt64 = 100 ∧ (10 : Int32).toInt64 = 10 ∧ (0 : Int32).toInt64 = 0 ∧ (1 : Int32).toInt64 = 1 ∧ (7 : Int32).toInt64 = 7 ∧ (2 : Int32).toInt64 = 2 := by decide
theorem vc_cut {G : xG} {y : Nat} {Q : xQt} {K : Nat → List Value → List Value → xM → Prop} {pc : Nat} {ls : List Value} {m : xM} (pc1 : Nat) (ls1 : List Value) (P : xM → Prop) (h1 : VC G y Q (fun pc' ls' st' m' => (pc' = pc1 ∧ st' = [] ∧ subL ls1 ls' ∧ P m') ∨ K pc' ls' st' m') pc ls [] m) (h2 : ∀ m1, P m1 → VC G y Q K pc1 ls1 [] m1) : VC G y Q K pc ls [] m := by
  refine vc_mono ?_ h1
  intro pc' ls' st' m' h
  rcases h with ⟨rfl, rfl, h3, h4⟩ | h
  · obtain ⟨g1, g2⟩ := subL_len h3
    exact vc_sub g1 g2 (h2 _ h4)
  · exact fun hK hl => hK _ _ _ _ hl h

theorem u61 (m : xM) (c : Nat) (b f t : Int32) : xa m (c + 12) (mapF (m.1 (c + 12)) (fun h => if m.1 (c + 9) h = b ∧ m.1 (c + 12) h = f then t else m.1 (c + 12) h) (ix (m.1 c 5))) = s6 m c (aSend (kk m c) (g6 m c) b f t) := by
  refine s6_eq ?_ ?_ ?_ ?_ ?_ ?_ (fun q e5 e6 e7 e8 e12 e13 => ?_) rfl
  · simp [xa_1]; rfl
  · simp [xa_1]; rfl
  · simp [xa_1]; rfl
  · simp [xa_1]; rfl
  · simp [xa_1]; rfl
  · simp [xa_1]; rfl
  · simp [xa_1, e12]
theorem u80 (m : xM) (c : Nat) (b : Int32) : xa m (c + 13) (mapF (m.1 (c + 13)) (fun h => if m.1 (c + 9) h = b ∧ (¬ m.1 (c + 12) h = 0 ∨ m.1 (c + 5) (ix b) = 4) then (if 0 < m.1 (c + 13) h - aCold (kk m c) h then m.1 (c + 13) h - aCold (kk m c) h else 0) else m.1 (c + 13) h) (ix (m.1 c 5))) = s6 m c (aChill (kk m c) (g6 m c) b) := by
  refine s6_eq ?_ ?_ ?_ ?_ ?_ ?_ (fun q e5 e6 e7 e8 e12 e13 => ?_) rfl
  · simp [xa_1]; rfl
  · simp [xa_1]; rfl
  · simp [xa_1]; rfl
  · simp [xa_1]; rfl
  · simp [xa_1]; rfl
  · simp [xa_1]; rfl
  · simp [xa_1, e13]

theorem v68 (m : xM) (c : Nat) (b p : Int32) : fd (fun h => if m.1 (c + 9) h = b ∧ m.1 (c + 12) h = p ∧ ¬ m.1 (c + 13) h ≤ 0 then 1 else 0) (ix (m.1 c 5)) = aAble (kk m c) (g6 m c) b p := rfl
theorem v78 (m : xM) (c : Nat) (b : Int32) : fd (fun h => if m.1 (c + 9) h = b ∧ m.1 (c + 12) h = 0 then m.1 (c + 10) h else 0) (ix (m.1 c 5)) = aIn (kk m c) (g6 m c) b := rfl

def S61b (as : List Value) (m : xM) (Q : xQt) : Prop := match as with
  | [.ref c, .int b, .int f, .int t] => (isC c) ∧ (m.1 c 5 ≤ 12) ∧ Q (none) (s6 m c (aSend (kk m c) (g6 m c) b f t))
  | _ => False
theorem s61b (c : Nat) (b : Int32) (f : Int32) (t : Int32) (m : xM) (Q : xQt) : S61b [.ref c, .int b, .int f, .int t] m Q = ((isC c) ∧ (m.1 c 5 ≤ 12) ∧ Q (none) (s6 m c (aSend (kk m c) (g6 m c) b f t))) := rfl
theorem t61b {G : xG} : ∀ as m Q, S61b as m Q → Tri G 61 as m Q := by
  intro as m Q h
  match as, h with
  | [.ref c, .int b, .int f, .int t], h =>
    obtain ⟨hc, hn, h⟩ := h
    exact t61 [.ref c, .int b, .int f, .int t] m Q ⟨hc, hn, by rw [u61]; exact h⟩

def S80b (as : List Value) (m : xM) (Q : xQt) : Prop := match as with
  | [.ref c, .int b] => (isC c) ∧ (m.1 c 5 ≤ 12) ∧ (vp_in b 6) ∧ Q (none) (s6 m c (aChill (kk m c) (g6 m c) b))
  | _ => False
theorem s80b (c : Nat) (b : Int32) (m : xM) (Q : xQt) : S80b [.ref c, .int b] m Q = ((isC c) ∧ (m.1 c 5 ≤ 12) ∧ (vp_in b 6) ∧ Q (none) (s6 m c (aChill (kk m c) (g6 m c) b))) := rfl
theorem t80b {G : xG} : ∀ as m Q, S80b as m Q → Tri G 80 as m Q := by
  intro as m Q h
  match as, h with
  | [.ref c, .int b], h =>
    obtain ⟨hc, hn, hb, h⟩ := h
    exact t80 [.ref c, .int b] m Q ⟨hc, hn, hb, by rw [u80]; exact h⟩

def S68b (as : List Value) (m : xM) (Q : xQt) : Prop := match as with
  | [.ref c, .int b, .int p] => (isC c) ∧ (m.1 c 5 ≤ 12) ∧ Q (some (.int (aAble (kk m c) (g6 m c) b p))) (m)
  | _ => False
theorem s68b (c : Nat) (b : Int32) (p : Int32) (m : xM) (Q : xQt) : S68b [.ref c, .int b, .int p] m Q = ((isC c) ∧ (m.1 c 5 ≤ 12) ∧ Q (some (.int (aAble (kk m c) (g6 m c) b p))) (m)) := rfl
theorem t68b {G : xG} : ∀ as m Q, S68b as m Q → Tri G 68 as m Q := by
  intro as m Q h
  match as, h with
  | [.ref c, .int b, .int p], h =>
    obtain ⟨hc, hn, h⟩ := h
    exact t68 [.ref c, .int b, .int p] m Q ⟨hc, hn, by exact h⟩

def S78b (as : List Value) (m : xM) (Q : xQt) : Prop := match as with
  | [.ref c, .int b] => (isC c) ∧ (m.1 c 5 ≤ 12) ∧ Q (some (.int (aIn (kk m c) (g6 m c) b))) (m)
  | _ => False
theorem s78b (c : Nat) (b : Int32) (m : xM) (Q : xQt) : S78b [.ref c, .int b] m Q = ((isC c) ∧ (m.1 c 5 ≤ 12) ∧ Q (some (.int (aIn (kk m c) (g6 m c) b))) (m)) := rfl
theorem t78b {G : xG} : ∀ as m Q, S78b as m Q → Tri G 78 as m Q := by
  intro as m Q h
  match as, h with
  | [.ref c, .int b], h =>
    obtain ⟨hc, hn, h⟩ := h
    exact t78 [.ref c, .int b] m Q ⟨hc, hn, by exact h⟩

def S73 (as : List Value) (m : xM) (Q : xQt) : Prop := match as with
  | [.ref c, .int b, .ref d] => (isC c) ∧ (vp_in b 6) ∧ (m.1 c 5 ≤ 12) ∧ (isD d) ∧ Q (none) (s6 (xb m d (vp_updL (m.2 d) 1 (aUp (kk m c) (g6 m c) b (m.1 d 0) (m.2 d 1)).2)) c (aUp (kk m c) (g6 m c) b (m.1 d 0) (m.2 d 1)).1)
  | _ => False
theorem s73 (c : Nat) (b : Int32) (d : Nat) (m : xM) (Q : xQt) : S73 [.ref c, .int b, .ref d] m Q = ((isC c) ∧ (vp_in b 6) ∧ (m.1 c 5 ≤ 12) ∧ (isD d) ∧ Q (none) (s6 (xb m d (vp_updL (m.2 d) 1 (aUp (kk m c) (g6 m c) b (m.1 d 0) (m.2 d 1)).2)) c (aUp (kk m c) (g6 m c) b (m.1 d 0) (m.2 d 1)).1)) := rfl
theorem t73 {G : xG} : ∀ as m Q, S73 as m Q → Tri G 73 as m Q := by
  intro as m Q h
  match as, h with
  | [.ref c, .int b, .ref d], h =>
    obtain ⟨hc, hb, hn, hd, h⟩ := h
    refine tri_vc (ls := [.ref c, .int b, .ref d]) (by decide +kernel) rfl (Nat.le_of_ble_eq_true rfl) ?_
    refine vc_cut 39 [.ref c, .int b, .ref d] (fun m1 => m1 = s6 m c (aUp1 (kk m c) (g6 m c) b)) (vc_wp (T := TT [(61, S61b), (68, S68b), (74, S74), (60, S60)]) (TTc t61b (TTc t68b (TTc t74 (TTc t60 TTn)))) (fun p => p == 39) (rt0 := none) rfl c73 rfl ?_) ?_
    · simp only [i73, wp_iinc, wpE0, wpE1, wpE2, wpE3, wpE4, wpE5, wpJ, okS, lt4S, popR, litS, Int32.reduceLT, Int32.reduceLE, List.getElem?_cons_zero, List.getElem?_cons_succ, Bool.false_eq_true, ↓reduceIte, Nat.reduceMod, Nat.reduceDiv, Nat.reduceAdd, Nat.reduceSub, Nat.reduceMul, Nat.reduceLeDiff, Nat.reduceEqDiff, Nat.reduceBEq, Int.reduceToNat, Int.reduceAdd, Int32.reduceOfInt, Int64.reduceOfInt, Int32.reduceToNatClampNeg, Int32.reduceOfNat, Bool.or_self, Bool.or_false, Bool.false_or, Bool.true_or, Bool.or_true, true_and, and_true, false_and, and_false, List.set_cons_zero, List.set_cons_succ, List.take_succ_cons, List.take_zero, List.drop_succ_cons, List.drop_zero, List.reverse_cons, List.reverse_nil, List.nil_append, List.cons_append, List.length_cons, List.length_nil, Option.toList_some, Option.toList_none, not_true_eq_false, not_false_eq_true, forall_const, true_implies, false_implies, nrw, TTS, s61b, s68b, s74, s60, shC hc, and01, isCl, kk_xa, kk_s6, kk_xb, g6_xa, g6_s6, g6_xb, s6_xa, s6_s6, xb_s6, xb_xa, s6S, xa_1, xa_2, xb_1, xb_2, Nat.add_left_cancel_iff, Nat.reduceEqDiff, i2lS, show ∀ j, (c = c + (j + 1)) = False from fun j => by simp, hc, hb, hn, hd, subS, not_true_eq_false, not_false_eq_true, and_true, true_and, and_false, false_and, and_self, or_true, true_or, or_false, false_or, ↓reduceIte, if_true, if_false, eq_self, true_and, and_true, or_false]
      rfl
    · rintro m1 rfl
      refine vc_wp (T := TT [(61, S61b), (68, S68b), (74, S74), (60, S60)]) (TTc t61b (TTc t68b (TTc t74 (TTc t60 TTn)))) (fun _ => false) (rt0 := none) rfl (ckl_drop 27 c73) rfl ?_
      simp only [List.drop, i73, wp_iinc, wpE0, wpE1, wpE2, wpE3, wpE4, wpE5, wpJ, okS, lt4S, popR, litS, Int32.reduceLT, Int32.reduceLE, List.getElem?_cons_zero, List.getElem?_cons_succ, Bool.false_eq_true, ↓reduceIte, Nat.reduceMod, Nat.reduceDiv, Nat.reduceAdd, Nat.reduceSub, Nat.reduceMul, Nat.reduceLeDiff, Nat.reduceEqDiff, Nat.reduceBEq, Int.reduceToNat, Int.reduceAdd, Int32.reduceOfInt, Int64.reduceOfInt, Int32.reduceToNatClampNeg, Int32.reduceOfNat, Bool.or_self, Bool.or_false, Bool.false_or, Bool.true_or, Bool.or_true, true_and, and_true, false_and, and_false, List.set_cons_zero, List.set_cons_succ, List.take_succ_cons, List.take_zero, List.drop_succ_cons, List.drop_zero, List.reverse_cons, List.reverse_nil, List.nil_append, List.cons_append, List.length_cons, List.length_nil, Option.toList_some, Option.toList_none, not_true_eq_false, not_false_eq_true, forall_const, true_implies, false_implies, nrw, TTS, s61b, s68b, s74, s60, shC hc, and01, isCl, kk_xa, kk_s6, kk_xb, g6_xa, g6_s6, g6_xb, s6_xa, s6_s6, xb_s6, xb_xa, s6S, xa_1, xa_2, xb_1, xb_2, Nat.add_left_cancel_iff, Nat.reduceEqDiff, i2lS, show ∀ j, (c = c + (j + 1)) = False from fun j => by simp, hc, hb, hn, hd, s6D hc hd, hd, cmpS, not_true_eq_false, not_false_eq_true, and_true, true_and, and_false, false_and, and_self, or_true, true_or, or_false, false_or, ↓reduceIte, if_true, if_false, eq_self, shD hd, show (1 : Int32) ≤ 100 from by decide]
      unfold aUp at h
      refine ⟨fun q => ⟨fun q2 => ?_, fun q2 => ?_⟩, fun q => ?_⟩
      · rw [if_pos q, if_pos q2] at h
        refine ⟨fun q3 => ?_, fun q3 => ?_⟩
        · rw [if_pos (c := (2 * kWi (kk m c)).toInt64 ≤ aDraw (m.2 d 1) - aDraw (m.2 d 1) / 100 * 100) q3] at h; exact h
        · rw [if_neg (c := (2 * kWi (kk m c)).toInt64 ≤ aDraw (m.2 d 1) - aDraw (m.2 d 1) / 100 * 100) q3] at h; exact h
      · rw [if_pos q, if_neg q2, xb_id] at h; exact h
      · rw [if_neg q, xb_id] at h; exact h

def S77 (as : List Value) (m : xM) (Q : xQt) : Prop := match as with
  | [.ref c, .int b, .ref d] => (isC c) ∧ (vp_in b 6) ∧ (m.1 c 5 ≤ 12) ∧ (isD d) ∧ Q (none) (s6 (xb m d (vp_updL (m.2 d) 1 (aRide (kk m c) (g6 m c) b (m.1 d 0) (m.2 d 1)).2)) c (aRide (kk m c) (g6 m c) b (m.1 d 0) (m.2 d 1)).1)
  | _ => False
theorem s77 (c : Nat) (b : Int32) (d : Nat) (m : xM) (Q : xQt) : S77 [.ref c, .int b, .ref d] m Q = ((isC c) ∧ (vp_in b 6) ∧ (m.1 c 5 ≤ 12) ∧ (isD d) ∧ Q (none) (s6 (xb m d (vp_updL (m.2 d) 1 (aRide (kk m c) (g6 m c) b (m.1 d 0) (m.2 d 1)).2)) c (aRide (kk m c) (g6 m c) b (m.1 d 0) (m.2 d 1)).1)) := rfl
theorem t77 {G : xG} : ∀ as m Q, S77 as m Q → Tri G 77 as m Q := by
  intro as m Q h
  match as, h with
  | [.ref c, .int b, .ref d], h =>
    obtain ⟨hc, hb, hn, hd, h⟩ := h
    refine tri_vc (ls := [.ref c, .int b, .ref d, .null]) (by decide +kernel) rfl (Nat.le_of_ble_eq_true rfl) ?_
    refine vc_cut 63 [.ref c, .int b, .ref d, .null] (fun m1 => m1.1 c 5 ≤ 12 ∧ Q none (s6 m1 c (aBail (kk m1 c) (g6 m1 c) b))) (vc_wp (T := TT [(78, S78b), (68, S68b), (74, S74), (60, S60)]) (TTc t78b (TTc t68b (TTc t74 (TTc t60 TTn)))) (fun p => p == 63) (rt0 := none) rfl c77 rfl ?_) ?_
    · simp only [i77, wp_iinc, wpE0, wpE1, wpE2, wpE3, wpE4, wpE5, wpJ, okS, lt4S, popR, litS, Int32.reduceLT, Int32.reduceLE, List.getElem?_cons_zero, List.getElem?_cons_succ, Bool.false_eq_true, ↓reduceIte, Nat.reduceMod, Nat.reduceDiv, Nat.reduceAdd, Nat.reduceSub, Nat.reduceMul, Nat.reduceLeDiff, Nat.reduceEqDiff, Nat.reduceBEq, Int.reduceToNat, Int.reduceAdd, Int32.reduceOfInt, Int64.reduceOfInt, Int32.reduceToNatClampNeg, Int32.reduceOfNat, Bool.or_self, Bool.or_false, Bool.false_or, Bool.true_or, Bool.or_true, true_and, and_true, false_and, and_false, List.set_cons_zero, List.set_cons_succ, List.take_succ_cons, List.take_zero, List.drop_succ_cons, List.drop_zero, List.reverse_cons, List.reverse_nil, List.nil_append, List.cons_append, List.length_cons, List.length_nil, Option.toList_some, Option.toList_none, not_true_eq_false, not_false_eq_true, forall_const, true_implies, false_implies, nrw, TTS, s78b, s68b, s74, s60, shC hc, and01, isCl, kk_xa, kk_s6, kk_xb, g6_xa, g6_s6, g6_xb, s6_xa, s6_s6, xb_s6, xb_xa, s6S, xa_1, xa_2, xb_1, xb_2, Nat.add_left_cancel_iff, Nat.reduceEqDiff, i2lS, show ∀ j, (c = c + (j + 1)) = False from fun j => by simp, hc, hb, hn, hd, subS, not_true_eq_false, not_false_eq_true, and_true, true_and, and_false, false_and, and_self, or_true, true_or, or_false, false_or, ↓reduceIte, if_true, if_false, eq_self, hd, shD hd, cmpS, show (1 : Int32) ≤ 10 from by decide, true_and, and_true, or_false]
      unfold aRide at h
      refine ⟨fun q => ?_, fun q => ?_⟩
      · rw [if_pos q] at h
        refine ⟨fun q3 => ?_, fun q3 => ?_⟩
        · rw [if_pos (c := ((kWi (kk m c)).toInt64 + (aDraw (m.2 d 1) - aDraw (m.2 d 1) / 10 * 10)) * (kSa (kk m c) (ix b)).toInt64 ≤ (aIn (kk m c) (g6 m c) b + 5 * kBe (kk m c) (ix b) - xWa (g6 m c) (ix b)).toInt64) q3] at h; exact h
        · rw [if_neg (c := ((kWi (kk m c)).toInt64 + (aDraw (m.2 d 1) - aDraw (m.2 d 1) / 10 * 10)) * (kSa (kk m c) (ix b)).toInt64 ≤ (aIn (kk m c) (g6 m c) b + 5 * kBe (kk m c) (ix b) - xWa (g6 m c) (ix b)).toInt64) q3] at h; exact h
      · rw [if_neg q, xb_id] at h; exact h
    · rintro m1 ⟨hn1, h1⟩
      clear h hn
      refine vc_wp (T := TT [(78, S78b), (68, S68b), (74, S74), (60, S60)]) (TTc t78b (TTc t68b (TTc t74 (TTc t60 TTn)))) (fun _ => false) (rt0 := none) rfl (ckl_drop 40 c77) rfl ?_
      have hn := hn1
      simp only [List.drop, i77, wp_iinc, wpE0, wpE1, wpE2, wpE3, wpE4, wpE5, wpJ, okS, lt4S, popR, litS, Int32.reduceLT, Int32.reduceLE, List.getElem?_cons_zero, List.getElem?_cons_succ, Bool.false_eq_true, ↓reduceIte, Nat.reduceMod, Nat.reduceDiv, Nat.reduceAdd, Nat.reduceSub, Nat.reduceMul, Nat.reduceLeDiff, Nat.reduceEqDiff, Nat.reduceBEq, Int.reduceToNat, Int.reduceAdd, Int32.reduceOfInt, Int64.reduceOfInt, Int32.reduceToNatClampNeg, Int32.reduceOfNat, Bool.or_self, Bool.or_false, Bool.false_or, Bool.true_or, Bool.or_true, true_and, and_true, false_and, and_false, List.set_cons_zero, List.set_cons_succ, List.take_succ_cons, List.take_zero, List.drop_succ_cons, List.drop_zero, List.reverse_cons, List.reverse_nil, List.nil_append, List.cons_append, List.length_cons, List.length_nil, Option.toList_some, Option.toList_none, not_true_eq_false, not_false_eq_true, forall_const, true_implies, false_implies, nrw, TTS, s78b, s68b, s74, s60, shC hc, and01, isCl, kk_xa, kk_s6, kk_xb, g6_xa, g6_s6, g6_xb, s6_xa, s6_s6, xb_s6, xb_xa, s6S, xa_1, xa_2, xb_1, xb_2, Nat.add_left_cancel_iff, Nat.reduceEqDiff, i2lS, show ∀ j, (c = c + (j + 1)) = False from fun j => by simp, hc, hb, hn, hd, upd_at, not_true_eq_false, not_false_eq_true, and_true, true_and, and_false, false_and, and_self, or_true, true_or, or_false, false_or, ↓reduceIte, if_true, if_false, eq_self]
      unfold aBail at h1
      refine ⟨fun q => ?_, fun q => ?_⟩
      · rw [if_pos (c := xHo (g6 m1 c) (ix b) = 4) q] at h1
        refine ⟨fun q2 => ?_, fun q2 => ?_⟩
        · rw [if_pos (c := aBailW (kk m1 c) (g6 m1 c) b = 0) q2] at h1
          refine q_eq h1 ?_
          refine s6_eq ?_ ?_ ?_ ?_ ?_ ?_ ?_ ?_ <;> (try intros) <;> first | rfl | (simp only [g6, xa_1, Nat.add_left_cancel_iff, Nat.reduceEqDiff, not_true_eq_false, not_false_eq_true, and_true, true_and, and_false, false_and, and_self, or_true, true_or, or_false, false_or, ↓reduceIte, if_true, if_false, eq_self, ne_eq, *]; done) | (simp only [g6, xa_1, Nat.add_left_cancel_iff, Nat.reduceEqDiff, not_true_eq_false, not_false_eq_true, and_true, true_and, and_false, false_and, and_self, or_true, true_or, or_false, false_or, ↓reduceIte, if_true, if_false, eq_self, ne_eq]; rfl)
        · rw [if_neg (c := aBailW (kk m1 c) (g6 m1 c) b = 0) q2] at h1
          refine q_eq h1 ?_
          refine s6_eq ?_ ?_ ?_ ?_ ?_ ?_ ?_ ?_ <;> (try intros) <;> first | rfl | (simp only [g6, xa_1, Nat.add_left_cancel_iff, Nat.reduceEqDiff, not_true_eq_false, not_false_eq_true, and_true, true_and, and_false, false_and, and_self, or_true, true_or, or_false, false_or, ↓reduceIte, if_true, if_false, eq_self, ne_eq, *]; done) | (simp only [g6, xa_1, Nat.add_left_cancel_iff, Nat.reduceEqDiff, not_true_eq_false, not_false_eq_true, and_true, true_and, and_false, false_and, and_self, or_true, true_or, or_false, false_or, ↓reduceIte, if_true, if_false, eq_self, ne_eq]; rfl)
      · rw [if_neg (c := xHo (g6 m1 c) (ix b) = 4) q, s6_g6] at h1
        exact h1
