/-- a counted loop, whose states are told by a property -/
theorem vc_forP {G : xG} {y : Nat} {Q : xQt} {K : Nat → List Value → List Value → xM → Prop} {pc : Nat} (n : Nat) (L : Nat → List Value) (P : Nat → xM → Prop) (hs : ∀ i m, i < n → P i m → VC G y Q (fun pc' ls' st' m' => (pc' = pc ∧ st' = [] ∧ subL (L (i + 1)) ls' ∧ P (i + 1) m') ∨ K pc' ls' st' m') pc (L i) [] m) (hx : ∀ m, P n m → VC G y Q K pc (L n) [] m) {m : xM} (h0 : P 0 m) : VC G y Q K pc (L 0) [] m := by
  have key : ∀ d i m, i + d = n → P i m → VC G y Q K pc (L i) [] m := by
    intro d
    induction d with
    | zero =>
      intro i m hi hp
      rw [show i = n by omega] at hp ⊢
      exact hx m hp
    | succ d ih =>
      intro i m hi hp
      refine vc_mono ?_ (hs i m (by omega) hp)
      intro pc' ls' st' m' h
      rcases h with ⟨rfl, rfl, h1, h2⟩ | h
      · obtain ⟨g1, g2⟩ := subL_len h1
        exact vc_sub g1 g2 (ih (i + 1) m' (by omega) h2)
      · exact fun hK hl => hK _ _ _ _ hl h
  exact key n 0 m (by omega) h0
/-- ticks of all boats -/
def aDays (k : KK) (s : Int32) (nb : Nat) : Nat → X6 × Int64 → X6 × Int64
  | 0, p => p
  | n + 1, p => aBoats k s nb (aDays k s nb n p)
theorem xok_tick {k : KK} {X : X6} {b s : Int32} {x : Int64} (h : xOK x) : xOK (aTick k X b s x).2 := by
  show xOK (aT1 k X b s x).2
  rw [aT1_eq]
  split
  · unfold aSid
    split
    · exact h
    · unfold aUp
      split
      · split
        · split <;> exact draw_ok h
        · exact h
      · exact h
  · split
    · exact h
    · unfold aRide
      split
      · split <;> exact draw_ok h
      · exact h
theorem vx_boats {k : KK} (hk : VKK k) {s : Int32} {p : X6 × Int64} (h : VXX k p.1) (hx : xOK p.2) : ∀ n, n ≤ ix (kNb k) → VXX k (aBoats k s n p).1 ∧ xOK (aBoats k s n p).2
  | 0, _ => ⟨h, hx⟩
  | n + 1, hn => by
    have ih := vx_boats hk h hx (s := s) n (by omega)
    have h6 := (ix_b (n := 6) (by decide) hk.1.2.2.2.1).1
    exact ⟨vx_tick hk ih.1 (by rw [ix_nI (by omega)]; omega) s _, xok_tick ih.2⟩
theorem vx_days {k : KK} (hk : VKK k) {s : Int32} {p : X6 × Int64} (h : VXX k p.1) (hx : xOK p.2) : ∀ n, VXX k (aDays k s (ix (kNb k)) n p).1 ∧ xOK (aDays k s (ix (kNb k)) n p).2
  | 0 => ⟨h, hx⟩
  | n + 1 => vx_boats hk (vx_days hk h hx n).1 (vx_days hk h hx n).2 _ (Nat.le_refl _)
theorem s6_c (m : xM) (c : Nat) (X : X6) (f : Nat → Int32) : s6 (xa m c f) c X = xa (s6 m c X) c f := by
  refine Prod.ext (funext fun q => ?_) rfl
  by_cases h : q = c
  · subst h; simp [s6, xa]
  · simp [s6, xa, h]
/-- the Model's tick, of clubs that keep to their ranges -/

def S183c (k : KK) (X : X6) (s : Int32) (as : List Value) (m : xM) (Q : xQt) : Prop := match as with
  | [.ref o, .ref r, .int b, .int dw] => (o = 86) ∧ (isR r) ∧ (EK k (m.1 90)) ∧ (E6 (ix (m.1 90 4)) X (m.1 r)) ∧ (VKK k) ∧ (VXX k X) ∧ (¬ b < 0 ∧ ix b < ix (kNb k)) ∧ (xOK (m.2 86 19)) ∧ ((s = 0) = (¬ dw = 0)) ∧ (∀ F, E6 (ix (m.1 90 4)) (aTick k X b s (m.2 86 19)).1 F → F 48 = m.1 r 48 → Q none (xa (xb m 86 (vp_updL (m.2 86) 19 (aTick k X b s (m.2 86 19)).2)) r F))
  | _ => False
theorem s183c (k : KK) (X : X6) (s : Int32) (o : Nat) (r : Nat) (b : Int32) (dw : Int32) (m : xM) (Q : xQt) : S183c k X s [.ref o, .ref r, .int b, .int dw] m Q = ((o = 86) ∧ (isR r) ∧ (EK k (m.1 90)) ∧ (E6 (ix (m.1 90 4)) X (m.1 r)) ∧ (VKK k) ∧ (VXX k X) ∧ (¬ b < 0 ∧ ix b < ix (kNb k)) ∧ (xOK (m.2 86 19)) ∧ ((s = 0) = (¬ dw = 0)) ∧ (∀ F, E6 (ix (m.1 90 4)) (aTick k X b s (m.2 86 19)).1 F → F 48 = m.1 r 48 → Q none (xa (xb m 86 (vp_updL (m.2 86) 19 (aTick k X b s (m.2 86 19)).2)) r F))) := rfl
theorem how_5 {a : Int32} (h : bt a 0 4) : a = 0 ∨ a = 1 ∨ a = 2 ∨ a = 3 ∨ a = 4 := by
  have h1 := h.1
  have h2 := h.2
  simp only [← Int32.toInt_inj]
  show a.toInt = 0 ∨ a.toInt = 1 ∨ a.toInt = 2 ∨ a.toInt = 3 ∨ a.toInt = 4
  omega
theorem la_1 {a : Int32} (h : bt a 1 60) : 1 ≤ 6 * a := by
  obtain ⟨n, h1, h2, rfl⟩ := b_of (u := 60) (by decide) h
  exact (by decide +kernel : ∀ n : Nat, n < 61 → 1 ≤ n → (1 : Int32) ≤ 6 * nI n) n (by omega) (by omega)
theorem t183c {G : xG} (k : KK) (X : X6) (s : Int32) : ∀ as m Q, S183c k X s as m Q → Tri G 183 as m Q := by
  intro as m Q h
  match as, h with
  | [.ref o, .ref r, .int b, .int dw], h =>
    obtain ⟨ho, hr, hk, hx, hvk, hvx, hbb, hxo, hs, h⟩ := h
    have h6 := (ix_b (n := 6) (by decide) hvk.1.2.2.2.1).1
    have e3 : m.1 90 3 = kNb k := hk.1.2.2.2.1.symm
    have e4 : m.1 90 4 = kNh k := hk.1.2.2.2.2.symm
    have hb3 : ix b < ix (m.1 90 3) := by rw [e3]; exact hbb.2
    have hB := hk.2.1 _ hb3
    have hV := hvk.2.1 _ hbb.2
    have hX := hx.1 (ix b) (by omega)
    refine t183b k X s [.ref o, .ref r, .int b, .int dw] m Q ⟨ho, hr, ?_, xin hbb.1 (by omega), hb3, hk, hx, ?_, ?_, ?_, ?_, (fun _ => hxo), ?_, hs, h⟩
    · rw [e4]; exact bt_le hvk.1.2.2.2.2 rfl
    · rw [← hB.2.1]; exact b_w (l' := 0) hV.2.1 (by omega) (by omega)
    · rw [← hk.1.2.2.1]; exact hvk.1.2.2.1
    · intro i hi
      rw [← (hk.2.2 i hi).2.2]
      exact la_1 (hvk.2.2.1 i (by rw [← e4]; exact hi)).2.2
    · rw [← hX.1]; exact how_5 (hvx.1 _ hbb.2).1
    · rw [← hk.1.2.1]; exact hvk.1.2.1

def goM (m : xM) (a2 : Int32) (i : Nat) : xM := (xa (sX (xb (xa m 63 (upd (m.1 63) 0 0)) 63 (vp_updL (m.2 63) 1 a2.toInt64)) 7 63 (aDays (kk m 7) 0 (ix (m.1 7 4)) i (g6 m 7, a2.toInt64))) 7 (upd (m.1 7) 3 (m.1 7 3 + nI i)))
theorem goMS (m : xM) (a2 : Int32) (i : Nat) : (goM m a2 i).1 7 5 = m.1 7 5 ∧ (goM m a2 i).1 7 4 = m.1 7 4 ∧ (goM m a2 i).1 7 3 = m.1 7 3 + nI i ∧ kk (goM m a2 i) 7 = kk m 7 ∧ (goM m a2 i).1 63 0 = 0 := ⟨rfl, rfl, rfl, rfl, rfl⟩
theorem go_0 (m : xM) (a2 : Int32) : goM m a2 0 = (xb (xa m 63 (upd (m.1 63) 0 0)) 63 (vp_updL (m.2 63) 1 a2.toInt64)) := by
  show xa (sX (xb (xa m 63 (upd (m.1 63) 0 0)) 63 (vp_updL (m.2 63) 1 a2.toInt64)) 7 63 (g6 m 7, a2.toInt64)) 7 (upd (m.1 7) 3 (m.1 7 3 + 0)) = _
  rw [Int32.add_zero, upd_id (f := m.1 7) (i := 3) rfl]
  have e := sX_id (xb (xa m 63 (upd (m.1 63) 0 0)) 63 (vp_updL (m.2 63) 1 a2.toInt64)) 7 63
  have e2 : (g6 (xb (xa m 63 (upd (m.1 63) 0 0)) 63 (vp_updL (m.2 63) 1 a2.toInt64)) 7, ((xb (xa m 63 (upd (m.1 63) 0 0)) 63 (vp_updL (m.2 63) 1 a2.toInt64))).2 63 1) = (g6 m 7, a2.toInt64) := rfl
  rw [e2] at e
  rw [e]
  exact xa_id (xb (xa m 63 (upd (m.1 63) 0 0)) 63 (vp_updL (m.2 63) 1 a2.toInt64)) 7
theorem go_s (m : xM) (a2 : Int32) (i : Nat) : xa (sX (goM m a2 i) 7 63 (aBoats (kk m 7) 0 (ix (m.1 7 4)) (g6 (goM m a2 i) 7, (goM m a2 i).2 63 1))) 7 (upd ((goM m a2 i).1 7) 3 (m.1 7 3 + nI i + 1)) = goM m a2 (i + 1) := by
  have e4 : (g6 (goM m a2 i) 7, (goM m a2 i).2 63 1) = (aDays (kk m 7) 0 (ix (m.1 7 4)) i (g6 m 7, a2.toInt64)) := rfl
  have e5 : (goM m a2 i).1 7 = upd (m.1 7) 3 (m.1 7 3 + nI i) := rfl
  rw [e4, e5, updU, Int32.add_assoc, nI_1]
  show xa (s6 (xb (xa (sX (xb (xa m 63 (upd (m.1 63) 0 0)) 63 (vp_updL (m.2 63) 1 a2.toInt64)) 7 63 (aDays (kk m 7) 0 (ix (m.1 7 4)) i (g6 m 7, a2.toInt64))) 7 _) 63 _) 7 _) 7 _ = _
  rw [xb_xa, s6_c, xa_xa]
  exact congrArg (fun z => xa z 7 (upd (m.1 7) 3 (m.1 7 3 + nI (i + 1)))) (sX_sX (xb (xa m 63 (upd (m.1 63) 0 0)) 63 (vp_updL (m.2 63) 1 a2.toInt64)) 7 63 (aDays (kk m 7) 0 (ix (m.1 7 4)) i (g6 m 7, a2.toInt64)) _)

def S62 (as : List Value) (m : xM) (Q : xQt) : Prop := match as with
  | [.ref o, .int a, .int a2] => (o = 0) ∧ (¬ m.1 7 4 = 0) ∧ (¬ a < 1 ∧ ¬ 60 < a) ∧ (¬ a2 < 1 ∧ a2 ≤ 999999) ∧ (m.1 7 5 ≤ 12) ∧ (m.1 7 4 ≤ 6) ∧ Q (some (.long ((m.1 7 3 + a).toInt64))) (goM m a2 (ix a))
  | _ => False
theorem s62 (o : Nat) (a : Int32) (a2 : Int32) (m : xM) (Q : xQt) : S62 [.ref o, .int a, .int a2] m Q = ((o = 0) ∧ (¬ m.1 7 4 = 0) ∧ (¬ a < 1 ∧ ¬ 60 < a) ∧ (¬ a2 < 1 ∧ a2 ≤ 999999) ∧ (m.1 7 5 ≤ 12) ∧ (m.1 7 4 ≤ 6) ∧ Q (some (.long ((m.1 7 3 + a).toInt64))) (goM m a2 (ix a))) := rfl
theorem t62 {G : xG} : ∀ as m Q, S62 as m Q → Tri G 62 as m Q := by
  intro as m Q h
  match as, h with
  | [.ref o, .int a, .int a2], h =>
    obtain ⟨rfl, h1, h2, h3, hn, hB, h⟩ := h
    refine tri_vc (ls := [.ref 0, .int a, .int a2, .null]) (by decide +kernel) rfl (Nat.le_of_ble_eq_true rfl) ?_
    have ha : a = nI (ix a) ∧ ix a ≤ 60 := by
      have e0 : ¬ a < 0 := fun q => h2.1 (by rw [Int32.lt_iff_toInt_lt] at q ⊢; show a.toInt < 1; have q : a.toInt < 0 := q; omega)
      exact ⟨(ix_of e0).1, ix_max (k := 60) (Int32.not_lt.mp h2.2) (by decide)⟩
    refine vc_seq (pc1 := 50) (ls1 := [.ref 0, .int a, .int a2, .int 0]) (m1 := (xb (xa m 63 (upd (m.1 63) 0 0)) 63 (vp_updL (m.2 63) 1 a2.toInt64))) (vc_wp (T := TT [(63, S63), (64, S64), (65, S65)]) (TTc t63 (TTc t64 (TTc t65 TTn))) (fun p => p == 50) (rt0 := some .long) rfl c62 rfl ?_) ?_
    · simp only [i62, wp_iinc, wpE0, wpE1, wpE2, wpE3, wpE4, wpE5, wpJ, okS, lt4S, popR, litS, Int32.reduceLT, Int32.reduceLE, List.getElem?_cons_zero, List.getElem?_cons_succ, Bool.false_eq_true, ↓reduceIte, Nat.reduceMod, Nat.reduceDiv, Nat.reduceAdd, Nat.reduceSub, Nat.reduceMul, Nat.reduceLeDiff, Nat.reduceEqDiff, Nat.reduceBEq, Int.reduceToNat, Int.reduceAdd, Int32.reduceOfInt, Int64.reduceOfInt, Int32.reduceToNatClampNeg, Int32.reduceOfNat, Bool.or_self, Bool.or_false, Bool.false_or, Bool.true_or, Bool.or_true, true_and, and_true, false_and, and_false, List.set_cons_zero, List.set_cons_succ, List.take_succ_cons, List.take_zero, List.drop_succ_cons, List.drop_zero, List.reverse_cons, List.reverse_nil, List.nil_append, List.cons_append, List.length_cons, List.length_nil, Option.toList_some, Option.toList_none, not_true_eq_false, not_false_eq_true, forall_const, true_implies, false_implies, nrw, TTS, s63, s64, s65, i64, shO, sh7L, isCl, isDl, and01, bI_0, not_true_eq_false, not_false_eq_true, and_true, true_and, and_false, false_and, and_self, or_true, true_or, or_false, false_or, ↓reduceIte, if_true, if_false, eq_self, xa_1, xa_2, xb_1, Nat.reduceEqDiff, ↓reduceIte, h1, h2, h3, hn, hB, subS, true_and, and_true, true_or, or_false]
    rw [← go_0 m a2]
    refine vc_for (ix a) (fun i => [.ref 0, .int a, .int a2, .int (nI i)]) (fun i => goM m a2 i) (fun i hi => ?_) ?_
    · refine vc_wp (T := TT [(63, S63), (64, S64), (65, S65)]) (TTc t63 (TTc t64 (TTc t65 TTn))) (fun _ => false) (rt0 := some .long) rfl (ckl_drop 26 c62) rfl ?_
      have hi2 : ¬ ix a ≤ i := by omega
      simp only [List.drop, i62, wp_iinc, wpE0, wpE1, wpE2, wpE3, wpE4, wpE5, wpJ, okS, lt4S, popR, litS, Int32.reduceLT, Int32.reduceLE, List.getElem?_cons_zero, List.getElem?_cons_succ, Bool.false_eq_true, ↓reduceIte, Nat.reduceMod, Nat.reduceDiv, Nat.reduceAdd, Nat.reduceSub, Nat.reduceMul, Nat.reduceLeDiff, Nat.reduceEqDiff, Nat.reduceBEq, Int.reduceToNat, Int.reduceAdd, Int32.reduceOfInt, Int64.reduceOfInt, Int32.reduceToNatClampNeg, Int32.reduceOfNat, Bool.or_self, Bool.or_false, Bool.false_or, Bool.true_or, Bool.or_true, true_and, and_true, false_and, and_false, List.set_cons_zero, List.set_cons_succ, List.take_succ_cons, List.take_zero, List.drop_succ_cons, List.drop_zero, List.reverse_cons, List.reverse_nil, List.nil_append, List.cons_append, List.length_cons, List.length_nil, Option.toList_some, Option.toList_none, not_true_eq_false, not_false_eq_true, forall_const, true_implies, false_implies, nrw, TTS, s63, s64, s65, i64, shO, sh7L, isCl, isDl, and01, bI_0, not_true_eq_false, not_false_eq_true, and_true, true_and, and_false, false_and, and_self, or_true, true_or, or_false, false_or, ↓reduceIte, if_true, if_false, eq_self, xa_1, xa_2, xb_1, Nat.reduceEqDiff, ↓reduceIte, h1, h2, h3, hn, hB, subS, ix_le _ (show i < 2 ^ 31 by omega), hi2, goMS, go_s, not_true_eq_false, not_false_eq_true, and_true, true_and, and_false, false_and, and_self, or_true, true_or, or_false, false_or, ↓reduceIte, if_true, if_false, eq_self, nI_1]
    · refine vc_wp (T := TT [(63, S63), (64, S64), (65, S65)]) (TTc t63 (TTc t64 (TTc t65 TTn))) (fun _ => false) (rt0 := some .long) rfl (ckl_drop 26 c62) rfl ?_
      have hi2 : ix a ≤ ix a := Nat.le_refl _
      simp only [List.drop, i62, wp_iinc, wpE0, wpE1, wpE2, wpE3, wpE4, wpE5, wpJ, okS, lt4S, popR, litS, Int32.reduceLT, Int32.reduceLE, List.getElem?_cons_zero, List.getElem?_cons_succ, Bool.false_eq_true, ↓reduceIte, Nat.reduceMod, Nat.reduceDiv, Nat.reduceAdd, Nat.reduceSub, Nat.reduceMul, Nat.reduceLeDiff, Nat.reduceEqDiff, Nat.reduceBEq, Int.reduceToNat, Int.reduceAdd, Int32.reduceOfInt, Int64.reduceOfInt, Int32.reduceToNatClampNeg, Int32.reduceOfNat, Bool.or_self, Bool.or_false, Bool.false_or, Bool.true_or, Bool.or_true, true_and, and_true, false_and, and_false, List.set_cons_zero, List.set_cons_succ, List.take_succ_cons, List.take_zero, List.drop_succ_cons, List.drop_zero, List.reverse_cons, List.reverse_nil, List.nil_append, List.cons_append, List.length_cons, List.length_nil, Option.toList_some, Option.toList_none, not_true_eq_false, not_false_eq_true, forall_const, true_implies, false_implies, nrw, TTS, s63, s64, s65, i64, shO, sh7L, isCl, isDl, and01, bI_0, not_true_eq_false, not_false_eq_true, and_true, true_and, and_false, false_and, and_self, or_true, true_or, or_false, false_or, ↓reduceIte, if_true, if_false, eq_self, xa_1, xa_2, xb_1, Nat.reduceEqDiff, ↓reduceIte, h1, h2, h3, hn, hB, subS, ix_le _ (show ix a < 2 ^ 31 by omega), hi2, goMS, not_true_eq_false, not_false_eq_true, and_true, true_and, and_false, false_and, and_self, or_true, true_or, or_false, false_or, ↓reduceIte, if_true, if_false, eq_self]
      have e : nI (ix a) = a := ha.1.symm
      rw [e]
      exact h

