abbrev X6 : Type := (Nat → Int32) × (Nat → Int32) × (Nat → Int32) × (Nat → Int32) × (Nat → Int32) × (Nat → Int32)
abbrev KK : Type := Int32 × Int32 × Int32 × Int32 × Int32 × (Nat → Int32) × (Nat → Int32) × (Nat → Int32) × (Nat → Int32) × (Nat → Int32) × (Nat → Int32) × (Nat → Int32)
abbrev kWa (k : KK) : Int32 := k.1
abbrev kWi (k : KK) : Int32 := k.2.1
abbrev kMu (k : KK) : Int32 := k.2.2.1
abbrev kNb (k : KK) : Int32 := k.2.2.2.1
abbrev kNh (k : KK) : Int32 := k.2.2.2.2.1
abbrev kBe (k : KK) : Nat → Int32 := k.2.2.2.2.2.1
abbrev kSa (k : KK) : Nat → Int32 := k.2.2.2.2.2.2.1
abbrev kAi (k : KK) : Nat → Int32 := k.2.2.2.2.2.2.2.1
abbrev kFl (k : KK) : Nat → Int32 := k.2.2.2.2.2.2.2.2.1
abbrev kBo (k : KK) : Nat → Int32 := k.2.2.2.2.2.2.2.2.2.1
abbrev kWe (k : KK) : Nat → Int32 := k.2.2.2.2.2.2.2.2.2.2.1
abbrev kLa (k : KK) : Nat → Int32 := k.2.2.2.2.2.2.2.2.2.2.2
abbrev xHo (X : X6) : Nat → Int32 := X.1
abbrev xMa (X : X6) : Nat → Int32 := X.2.1
abbrev xWa (X : X6) : Nat → Int32 := X.2.2.1
abbrev xSi (X : X6) : Nat → Int32 := X.2.2.2.1
abbrev xSp (X : X6) : Nat → Int32 := X.2.2.2.2.1
abbrev xGr (X : X6) : Nat → Int32 := X.2.2.2.2.2
def kk (m : xM) (c : Nat) : KK := (m.1 c 0, m.1 c 1, m.1 c 2, m.1 c 4, m.1 c 5, m.1 (c + 1), m.1 (c + 2), m.1 (c + 3), m.1 (c + 4), m.1 (c + 9), m.1 (c + 10), m.1 (c + 11))
def g6 (m : xM) (c : Nat) : X6 := (m.1 (c + 5), m.1 (c + 6), m.1 (c + 7), m.1 (c + 8), m.1 (c + 12), m.1 (c + 13))
def s6 (m : xM) (c : Nat) (X : X6) : xM := (fun q => if q = c + 5 then X.1 else if q = c + 6 then X.2.1 else if q = c + 7 then X.2.2.1 else if q = c + 8 then X.2.2.2.1 else if q = c + 12 then X.2.2.2.2.1 else if q = c + 13 then X.2.2.2.2.2 else m.1 q, m.2)
theorem s6_eq {m m' : xM} {c : Nat} {X : X6} (h5 : m'.1 (c + 5) = X.1) (h6 : m'.1 (c + 6) = X.2.1) (h7 : m'.1 (c + 7) = X.2.2.1) (h8 : m'.1 (c + 8) = X.2.2.2.1) (h12 : m'.1 (c + 12) = X.2.2.2.2.1) (h13 : m'.1 (c + 13) = X.2.2.2.2.2) (ho : ∀ q, q ≠ c + 5 → q ≠ c + 6 → q ≠ c + 7 → q ≠ c + 8 → q ≠ c + 12 → q ≠ c + 13 → m'.1 q = m.1 q) (h2 : m'.2 = m.2) : m' = s6 m c X := by
  refine Prod.ext (funext fun q => ?_) h2
  show m'.1 q = if q = c + 5 then X.1 else if q = c + 6 then X.2.1 else if q = c + 7 then X.2.2.1 else if q = c + 8 then X.2.2.2.1 else if q = c + 12 then X.2.2.2.2.1 else if q = c + 13 then X.2.2.2.2.2 else m.1 q
  by_cases e5 : q = c + 5
  · rw [if_pos e5, e5, h5]
  · rw [if_neg e5]
    by_cases e6 : q = c + 6
    · rw [if_pos e6, e6, h6]
    · rw [if_neg e6]
      by_cases e7 : q = c + 7
      · rw [if_pos e7, e7, h7]
      · rw [if_neg e7]
        by_cases e8 : q = c + 8
        · rw [if_pos e8, e8, h8]
        · rw [if_neg e8]
          by_cases e12 : q = c + 12
          · rw [if_pos e12, e12, h12]
          · rw [if_neg e12]
            by_cases e13 : q = c + 13
            · rw [if_pos e13, e13, h13]
            · rw [if_neg e13]
              exact ho q e5 e6 e7 e8 e12 e13
theorem s6S (m : xM) (c : Nat) (X : X6) : (s6 m c X).1 (c + 5) = X.1 ∧ (s6 m c X).1 (c + 6) = X.2.1 ∧ (s6 m c X).1 (c + 7) = X.2.2.1 ∧ (s6 m c X).1 (c + 8) = X.2.2.2.1 ∧ (s6 m c X).1 (c + 12) = X.2.2.2.2.1 ∧ (s6 m c X).1 (c + 13) = X.2.2.2.2.2 ∧ (s6 m c X).1 c = m.1 c ∧ (s6 m c X).1 (c + 1) = m.1 (c + 1) ∧ (s6 m c X).1 (c + 2) = m.1 (c + 2) ∧ (s6 m c X).1 (c + 3) = m.1 (c + 3) ∧ (s6 m c X).1 (c + 4) = m.1 (c + 4) ∧ (s6 m c X).1 (c + 9) = m.1 (c + 9) ∧ (s6 m c X).1 (c + 10) = m.1 (c + 10) ∧ (s6 m c X).1 (c + 11) = m.1 (c + 11) ∧ (s6 m c X).2 = m.2 := by
  refine ⟨?_, ?_, ?_, ?_, ?_, ?_, ?_, ?_, ?_, ?_, ?_, ?_, ?_, ?_, rfl⟩ <;> simp [s6]
theorem s6_o {m : xM} {c q : Nat} {X : X6} (h : q < c ∨ c + 14 ≤ q) : (s6 m c X).1 q = m.1 q := by
  unfold s6
  simp only
  repeat rw [if_neg (by omega)]
theorem s6_s6 (m : xM) (c : Nat) (X Y : X6) : s6 (s6 m c X) c Y = s6 m c Y := by
  obtain ⟨h1, h2, h3, h4, h5, h6, -⟩ := s6S (s6 m c X) c Y
  refine s6_eq h1 h2 h3 h4 h5 h6 (fun q e5 e6 e7 e8 e12 e13 => ?_) rfl
  simp only [s6, if_neg e5, if_neg e6, if_neg e7, if_neg e8, if_neg e12, if_neg e13]
theorem kk_s6 (m : xM) (c : Nat) (X : X6) : kk (s6 m c X) c = kk m c := by simp only [kk, s6S]
theorem kk_xa (m : xM) (c : Nat) (f : Nat → Int32) : kk (xa m (c + 5) f) c = kk m c ∧ kk (xa m (c + 6) f) c = kk m c ∧ kk (xa m (c + 7) f) c = kk m c ∧ kk (xa m (c + 8) f) c = kk m c ∧ kk (xa m (c + 12) f) c = kk m c ∧ kk (xa m (c + 13) f) c = kk m c := by
  refine ⟨?_, ?_, ?_, ?_, ?_, ?_⟩ <;> simp [kk, xa_1]
theorem kk_xb (m : xM) (c d : Nat) (f : Nat → Int64) : kk (xb m d f) c = kk m c := rfl
theorem g6_xb (m : xM) (c d : Nat) (f : Nat → Int64) : g6 (xb m d f) c = g6 m c := rfl
theorem g6_s6 (m : xM) (c : Nat) (X : X6) : g6 (s6 m c X) c = X := by simp only [g6, s6S]
theorem s6_g6 (m : xM) (c : Nat) : s6 m c (g6 m c) = m := (s6_eq rfl rfl rfl rfl rfl rfl (fun _ _ _ _ _ _ _ => rfl) rfl).symm
theorem q_eq {Q : xQt} {r : Option Value} {m1 m2 : xM} (h : Q r m1) (e : m2 = m1) : Q r m2 := e ▸ h
/-- the first i places replaced -/
def mapF (f g : Nat → Int32) (i : Nat) : Nat → Int32 := fun h => if h < i then g h else f h
theorem mapF_0 (f g : Nat → Int32) : mapF f g 0 = f := by funext h; simp [mapF]
theorem mapF_at (f g : Nat → Int32) (i : Nat) : mapF f g i i = f i := by simp [mapF]
theorem mapF_s (f g : Nat → Int32) (i : Nat) (x : Int32) (e : g i = x) : upd (mapF f g i) i x = mapF f g (i + 1) := by
  funext h
  simp only [upd, mapF]
  by_cases e1 : h = i
  · subst e1; simp [e]
  · rw [if_neg e1]
    by_cases e2 : h < i
    · rw [if_pos e2, if_pos (by omega)]
    · rw [if_neg e2, if_neg (by omega)]
theorem mapF_k (f g : Nat → Int32) (i : Nat) (e : g i = f i) : mapF f g i = mapF f g (i + 1) := by
  funext h
  simp only [mapF]
  by_cases e1 : h = i
  · subst e1; simp [e]
  · by_cases e2 : h < i
    · rw [if_pos e2, if_pos (by omega)]
    · rw [if_neg e2, if_neg (by omega)]
def aAble (k : KK) (X : X6) (b p : Int32) : Int32 := fd (fun h => if kBo k h = b ∧ xSp X h = p ∧ ¬ xGr X h ≤ 0 then 1 else 0) (ix (kNh k))
def aBoard (k : KK) (X : X6) (b : Int32) : Int32 := fd (fun h => if kBo k h = b ∧ xSp X h = 2 ∧ ¬ xGr X h ≤ 0 then kWe k h else 0) (ix (kNh k))
def aIn (k : KK) (X : X6) (b : Int32) : Int32 := fd (fun h => if kBo k h = b ∧ xSp X h = 0 then kWe k h else 0) (ix (kNh k))
def aNeed (k : KK) (X : X6) (b : Int32) : Int32 := 10 * kSa k (ix b) + xMa X (ix b) + (if aAble k X b 3 ≤ 0 then 2 * kWi k else 0)
def aLever (k : KK) (X : X6) (b : Int32) : Int32 := aBoard k X b * kBe k (ix b) / 10
def aSend (k : KK) (X : X6) (b f t : Int32) : X6 := (X.1, X.2.1, X.2.2.1, X.2.2.2.1, mapF (xSp X) (fun h => if kBo k h = b ∧ xSp X h = f then t else xSp X h) (ix (kNh k)), X.2.2.2.2.2)
def aCap (k : KK) (X : X6) (b : Int32) : X6 := aSend k (upd X.1 (ix b) 1, upd X.2.1 (ix b) 0, upd X.2.2.1 (ix b) 0, upd X.2.2.2.1 (ix b) (X.2.2.2.1 (ix b) + 1), X.2.2.2.2.1, X.2.2.2.2.2) b 0 1
def aFillM (k : KK) (X : X6) (b : Int32) : Int32 := if xMa X (ix b) + 20 - kFl k (ix b) < 100 then xMa X (ix b) + 20 - kFl k (ix b) else 100
def aFill (k : KK) (X : X6) (b : Int32) : X6 := (if aFillM k X b = 100 then upd X.1 (ix b) (if kMu k = 0 then 2 else 3) else X.1, upd X.2.1 (ix b) (aFillM k X b), X.2.2)
def aDraw (x : Int64) : Int64 := x * 16807 - x * 16807 / 2147483647 * 2147483647
def aUp1 (k : KK) (X : X6) (b : Int32) : X6 := aSend k (upd X.1 (ix b) 4, upd X.2.1 (ix b) 0, upd X.2.2.1 (ix b) (70 - 6 * kAi k (ix b)), X.2.2.2.1, X.2.2.2.2.1, X.2.2.2.2.2) b 2 0
def aUp (k : KK) (X : X6) (b s : Int32) (x : Int64) : X6 × Int64 := if s = 0 then (if aAble k (aUp1 k X b) b 3 = 0 then (if (2 * kWi k).toInt64 ≤ aDraw x - aDraw x / 100 * 100 then (aUp1 k X b, aDraw x) else (aCap k (aUp1 k X b) b, aDraw x)) else (aUp1 k X b, x)) else (aUp1 k X b, x)
def aBailW (k : KK) (X : X6) (b : Int32) : Int32 := if 0 < xWa X (ix b) - 5 * aAble k X b 0 - kAi k (ix b) then xWa X (ix b) - 5 * aAble k X b 0 - kAi k (ix b) else 0
def aBail (k : KK) (X : X6) (b : Int32) : X6 := if xHo X (ix b) = 4 then (upd X.1 (ix b) (if aBailW k X b = 0 then 0 else 4), X.2.1, upd X.2.2.1 (ix b) (aBailW k X b), X.2.2.2) else X
def aRide (k : KK) (X : X6) (b s : Int32) (x : Int64) : X6 × Int64 := if s = 0 then (if ((kWi k).toInt64 + (aDraw x - aDraw x / 10 * 10)) * (kSa k (ix b)).toInt64 ≤ (aIn k X b + 5 * kBe k (ix b) - xWa X (ix b)).toInt64 then (aBail k X b, aDraw x) else (aCap k X b, aDraw x)) else (aBail k X b, x)
def aCold (k : KK) (h : Nat) : Int32 := if 1 ≤ 6 * kLa k h then (if 10 ≤ kWa k then 1000 / (6 * kLa k h) else 1000 / (6 * kLa k h) + 1000 / (6 * kLa k h) / 2) else 0
def aChill (k : KK) (X : X6) (b : Int32) : X6 := (X.1, X.2.1, X.2.2.1, X.2.2.2.1, X.2.2.2.2.1, mapF (xGr X) (fun h => if kBo k h = b ∧ (¬ xSp X h = 0 ∨ xHo X (ix b) = 4) then (if 0 < xGr X h - aCold k h then xGr X h - aCold k h else 0) else xGr X h) (ix (kNh k)))
def aT1 (k : KK) (X : X6) (b s : Int32) (x : Int64) : X6 × Int64 :=
  if xHo X (ix b) = 1 then (if aLever k X b < aNeed k X b then (aFill k X b, x) else aUp k X b s x)
  else if xHo X (ix b) = 2 then (if aLever k X b < 2 * aNeed k X b then (X, x) else ((upd X.1 (ix b) 1, upd X.2.1 (ix b) 50, X.2.2.1, upd X.2.2.2.1 (ix b) (X.2.2.2.1 (ix b) + 1), X.2.2.2.2), x))
  else if xHo X (ix b) = 3 then ((upd X.1 (ix b) (if aLever k X b < 3 * aNeed k X b then 3 else 2), X.2), x)
  else aRide k X b s x
def aTick (k : KK) (X : X6) (b s : Int32) (x : Int64) : X6 × Int64 := (aChill k (aT1 k X b s x).1 b, (aT1 k X b s x).2)

def S61 (as : List Value) (m : xM) (Q : xQt) : Prop := match as with
  | [.ref c, .int b, .int f, .int t] => (isC c) ∧ (m.1 c 5 ≤ 12) ∧ Q (none) (xa m (c + 12) (mapF (m.1 (c + 12)) (fun h => if m.1 (c + 9) h = b ∧ m.1 (c + 12) h = f then t else m.1 (c + 12) h) (ix (m.1 c 5))))
  | _ => False
theorem s61 (c : Nat) (b : Int32) (f : Int32) (t : Int32) (m : xM) (Q : xQt) : S61 [.ref c, .int b, .int f, .int t] m Q = ((isC c) ∧ (m.1 c 5 ≤ 12) ∧ Q (none) (xa m (c + 12) (mapF (m.1 (c + 12)) (fun h => if m.1 (c + 9) h = b ∧ m.1 (c + 12) h = f then t else m.1 (c + 12) h) (ix (m.1 c 5))))) := rfl
theorem t61 {G : xG} : ∀ as m Q, S61 as m Q → Tri G 61 as m Q := by
  intro as m Q h
  match as, h with
  | [.ref c, .int b, .int f, .int t], h =>
    obtain ⟨hc, hn, h⟩ := h
    refine tri_vc (ls := [.ref c, .int b, .int f, .int t, .null]) (by decide +kernel) rfl (Nat.le_of_ble_eq_true rfl) ?_
    refine vc_seq (pc1 := 3) (ls1 := [.ref c, .int b, .int f, .int t, .int 0]) (m1 := xa m (c + 12) (mapF (m.1 (c + 12)) (fun h => if m.1 (c + 9) h = b ∧ m.1 (c + 12) h = f then t else m.1 (c + 12) h) 0)) (vc_wp (T := TT []) TTn (fun p => p == 3) (rt0 := none) rfl c61 rfl ?_) ?_
    · simp only [i61, wp_iinc, wpE0, wpE1, wpE2, wpE3, wpE4, wpE5, wpJ, okS, lt4S, popR, litS, Int32.reduceLT, Int32.reduceLE, List.getElem?_cons_zero, List.getElem?_cons_succ, Bool.false_eq_true, ↓reduceIte, Nat.reduceMod, Nat.reduceDiv, Nat.reduceAdd, Nat.reduceSub, Nat.reduceMul, Nat.reduceLeDiff, Nat.reduceEqDiff, Nat.reduceBEq, Int.reduceToNat, Int.reduceAdd, Int32.reduceOfInt, Int64.reduceOfInt, Int32.reduceToNatClampNeg, Int32.reduceOfNat, Bool.or_self, Bool.or_false, Bool.false_or, Bool.true_or, Bool.or_true, true_and, and_true, false_and, and_false, List.set_cons_zero, List.set_cons_succ, List.take_succ_cons, List.take_zero, List.drop_succ_cons, List.drop_zero, List.reverse_cons, List.reverse_nil, List.nil_append, List.cons_append, List.length_cons, List.length_nil, Option.toList_some, Option.toList_none, not_true_eq_false, not_false_eq_true, forall_const, true_implies, false_implies, nrw, TTS, shC hc, and01, isCl, hc, hn, subS, true_and, and_true, or_false]
      rw [mapF_0, xa_id]
    refine vc_for (ix (m.1 c 5)) (fun i => [.ref c, .int b, .int f, .int t, .int (nI i)]) (fun i => xa m (c + 12) (mapF (m.1 (c + 12)) (fun h => if m.1 (c + 9) h = b ∧ m.1 (c + 12) h = f then t else m.1 (c + 12) h) i)) (fun i hi => ?_) ?_
    · refine vc_wp (T := TT []) TTn (fun _ => false) (rt0 := none) rfl (ckl_drop 2 c61) rfl ?_
      have hi2 : ¬ ix (m.1 c 5) ≤ i := by omega
      have hi12 : i < 12 := by have := ix_max (k := 12) hn (by decide); omega
      have hi3 : vp_in (nI i) 12 := xin_nI hi12 (by omega)
      have hi4 : (nI i).toNatClampNeg = i := nI_clamp (by omega)
      simp only [List.drop, i61, wp_iinc, wpE0, wpE1, wpE2, wpE3, wpE4, wpE5, wpJ, okS, lt4S, popR, litS, Int32.reduceLT, Int32.reduceLE, List.getElem?_cons_zero, List.getElem?_cons_succ, Bool.false_eq_true, ↓reduceIte, Nat.reduceMod, Nat.reduceDiv, Nat.reduceAdd, Nat.reduceSub, Nat.reduceMul, Nat.reduceLeDiff, Nat.reduceEqDiff, Nat.reduceBEq, Int.reduceToNat, Int.reduceAdd, Int32.reduceOfInt, Int64.reduceOfInt, Int32.reduceToNatClampNeg, Int32.reduceOfNat, Bool.or_self, Bool.or_false, Bool.false_or, Bool.true_or, Bool.or_true, true_and, and_true, false_and, and_false, List.set_cons_zero, List.set_cons_succ, List.take_succ_cons, List.take_zero, List.drop_succ_cons, List.drop_zero, List.reverse_cons, List.reverse_nil, List.nil_append, List.cons_append, List.length_cons, List.length_nil, Option.toList_some, Option.toList_none, not_true_eq_false, not_false_eq_true, forall_const, true_implies, false_implies, nrw, TTS, shC hc, and01, isCl, hc, hn, subS, xa_1, xa_2, xa_xa, mapF_at, Nat.add_left_cancel_iff, Nat.reduceEqDiff, show ∀ j, (c = c + (j + 1)) = False from fun j => by simp, kk_xa, ix_le _ (show i < 2 ^ 31 by omega), hi2, hi3, hi4, not_true_eq_false, not_false_eq_true, and_true, true_and, and_false, false_and, and_self, or_true, true_or, or_false, false_or, ↓reduceIte, if_true, if_false, eq_self, nI_1]
      repeat' (first | apply And.intro | intro _)
      all_goals first | (rw [mapF_s _ _ _ _ (by simp only [*, not_true_eq_false, not_false_eq_true, and_true, true_and, and_false, false_and, and_self, or_true, true_or, or_false, false_or, ↓reduceIte, if_true, if_false, eq_self])]; done) | (rw [← mapF_k _ _ _ (by simp only [*, not_true_eq_false, not_false_eq_true, and_true, true_and, and_false, false_and, and_self, or_true, true_or, or_false, false_or, ↓reduceIte, if_true, if_false, eq_self])]; done)
    · refine vc_wp (T := TT []) TTn (fun _ => false) (rt0 := none) rfl (ckl_drop 2 c61) rfl ?_
      have hi2 : ix (m.1 c 5) ≤ ix (m.1 c 5) := Nat.le_refl _
      have hi12 : ix (m.1 c 5) < 2 ^ 31 := by have := ix_max (k := 12) hn (by decide); omega
      simp only [List.drop, i61, wp_iinc, wpE0, wpE1, wpE2, wpE3, wpE4, wpE5, wpJ, okS, lt4S, popR, litS, Int32.reduceLT, Int32.reduceLE, List.getElem?_cons_zero, List.getElem?_cons_succ, Bool.false_eq_true, ↓reduceIte, Nat.reduceMod, Nat.reduceDiv, Nat.reduceAdd, Nat.reduceSub, Nat.reduceMul, Nat.reduceLeDiff, Nat.reduceEqDiff, Nat.reduceBEq, Int.reduceToNat, Int.reduceAdd, Int32.reduceOfInt, Int64.reduceOfInt, Int32.reduceToNatClampNeg, Int32.reduceOfNat, Bool.or_self, Bool.or_false, Bool.false_or, Bool.true_or, Bool.or_true, true_and, and_true, false_and, and_false, List.set_cons_zero, List.set_cons_succ, List.take_succ_cons, List.take_zero, List.drop_succ_cons, List.drop_zero, List.reverse_cons, List.reverse_nil, List.nil_append, List.cons_append, List.length_cons, List.length_nil, Option.toList_some, Option.toList_none, not_true_eq_false, not_false_eq_true, forall_const, true_implies, false_implies, nrw, TTS, shC hc, and01, isCl, hc, hn, subS, xa_1, Nat.add_left_cancel_iff, Nat.reduceEqDiff, show ∀ j, (c = c + (j + 1)) = False from fun j => by simp, kk_xa, ix_le _ hi12, hi2, not_true_eq_false, not_false_eq_true, and_true, true_and, and_false, false_and, and_self, or_true, true_or, or_false, false_or, ↓reduceIte, if_true, if_false, eq_self]
      exact h

def S81 (as : List Value) (m : xM) (Q : xQt) : Prop := match as with
  | [.ref c, .int a] => (isC c) ∧ (vp_in a 12) ∧ Q (some (.int (aCold (kk m c) (ix a)))) (m)
  | _ => False
theorem s81 (c : Nat) (a : Int32) (m : xM) (Q : xQt) : S81 [.ref c, .int a] m Q = ((isC c) ∧ (vp_in a 12) ∧ Q (some (.int (aCold (kk m c) (ix a)))) (m)) := rfl
theorem t81 {G : xG} : ∀ as m Q, S81 as m Q → Tri G 81 as m Q := by
  intro as m Q h
  match as, h with
  | [.ref c, .int a], h =>
    obtain ⟨hc, hh, h⟩ := h
    refine tri_wp (T := TT []) (ls := [.ref c, .int a, .null, .null]) TTn c81 (by decide +kernel) (rt0 := some .int) rfl rfl (Nat.le_of_ble_eq_true rfl) rfl ?_
    simp only [i81, wp_iinc, wpE0, wpE1, wpE2, wpE3, wpE4, wpE5, wpJ, okS, lt4S, popR, litS, Int32.reduceLT, Int32.reduceLE, List.getElem?_cons_zero, List.getElem?_cons_succ, Bool.false_eq_true, ↓reduceIte, Nat.reduceMod, Nat.reduceDiv, Nat.reduceAdd, Nat.reduceSub, Nat.reduceMul, Nat.reduceLeDiff, Nat.reduceEqDiff, Nat.reduceBEq, Int.reduceToNat, Int.reduceAdd, Int32.reduceOfInt, Int64.reduceOfInt, Int32.reduceToNatClampNeg, Int32.reduceOfNat, Bool.or_self, Bool.or_false, Bool.false_or, Bool.true_or, Bool.or_true, true_and, and_true, false_and, and_false, List.set_cons_zero, List.set_cons_succ, List.take_succ_cons, List.take_zero, List.drop_succ_cons, List.drop_zero, List.reverse_cons, List.reverse_nil, List.nil_append, List.cons_append, List.length_cons, List.length_nil, Option.toList_some, Option.toList_none, not_true_eq_false, not_false_eq_true, forall_const, true_implies, false_implies, nrw, TTS, shC hc, and01, isCl, hc, hh]
    simp only [aCold, kk, ix] at h
    refine ⟨fun q => ⟨fun z => ?_, fun zq2 => ?_, fun zq2 => ?_⟩, fun q => ?_⟩
    · rw [z] at q; exact absurd q (by decide)
    · simp only [q, zq2, not_true_eq_false, not_false_eq_true, and_true, true_and, and_false, false_and, and_self, or_true, true_or, or_false, false_or, ↓reduceIte, if_true, if_false, eq_self] at h; exact h
    · simp only [q, zq2, not_true_eq_false, not_false_eq_true, and_true, true_and, and_false, false_and, and_self, or_true, true_or, or_false, false_or, ↓reduceIte, if_true, if_false, eq_self] at h; exact h
    · simp only [q, not_true_eq_false, not_false_eq_true, and_true, true_and, and_false, false_and, and_self, or_true, true_or, or_false, false_or, ↓reduceIte, if_true, if_false, eq_self] at h; exact h

def S80 (as : List Value) (m : xM) (Q : xQt) : Prop := match as with
  | [.ref c, .int b] => (isC c) ∧ (m.1 c 5 ≤ 12) ∧ (vp_in b 6) ∧ Q (none) (xa m (c + 13) (mapF (m.1 (c + 13)) (fun h => if m.1 (c + 9) h = b ∧ (¬ m.1 (c + 12) h = 0 ∨ m.1 (c + 5) (ix b) = 4) then (if 0 < m.1 (c + 13) h - aCold (kk m c) h then m.1 (c + 13) h - aCold (kk m c) h else 0) else m.1 (c + 13) h) (ix (m.1 c 5))))
  | _ => False
theorem s80 (c : Nat) (b : Int32) (m : xM) (Q : xQt) : S80 [.ref c, .int b] m Q = ((isC c) ∧ (m.1 c 5 ≤ 12) ∧ (vp_in b 6) ∧ Q (none) (xa m (c + 13) (mapF (m.1 (c + 13)) (fun h => if m.1 (c + 9) h = b ∧ (¬ m.1 (c + 12) h = 0 ∨ m.1 (c + 5) (ix b) = 4) then (if 0 < m.1 (c + 13) h - aCold (kk m c) h then m.1 (c + 13) h - aCold (kk m c) h else 0) else m.1 (c + 13) h) (ix (m.1 c 5))))) := rfl
theorem t80 {G : xG} : ∀ as m Q, S80 as m Q → Tri G 80 as m Q := by
  intro as m Q h
  match as, h with
  | [.ref c, .int b], h =>
    obtain ⟨hc, hn, hb, h⟩ := h
    refine tri_vc (ls := [.ref c, .int b, .null]) (by decide +kernel) rfl (Nat.le_of_ble_eq_true rfl) ?_
    refine vc_seq (pc1 := 2) (ls1 := [.ref c, .int b, .int 0]) (m1 := xa m (c + 13) (mapF (m.1 (c + 13)) (fun h => if m.1 (c + 9) h = b ∧ (¬ m.1 (c + 12) h = 0 ∨ m.1 (c + 5) (ix b) = 4) then (if 0 < m.1 (c + 13) h - aCold (kk m c) h then m.1 (c + 13) h - aCold (kk m c) h else 0) else m.1 (c + 13) h) 0)) (vc_wp (T := TT [(81, S81)]) (TTc t81 TTn) (fun p => p == 2) (rt0 := none) rfl c80 rfl ?_) ?_
    · simp only [i80, wp_iinc, wpE0, wpE1, wpE2, wpE3, wpE4, wpE5, wpJ, okS, lt4S, popR, litS, Int32.reduceLT, Int32.reduceLE, List.getElem?_cons_zero, List.getElem?_cons_succ, Bool.false_eq_true, ↓reduceIte, Nat.reduceMod, Nat.reduceDiv, Nat.reduceAdd, Nat.reduceSub, Nat.reduceMul, Nat.reduceLeDiff, Nat.reduceEqDiff, Nat.reduceBEq, Int.reduceToNat, Int.reduceAdd, Int32.reduceOfInt, Int64.reduceOfInt, Int32.reduceToNatClampNeg, Int32.reduceOfNat, Bool.or_self, Bool.or_false, Bool.false_or, Bool.true_or, Bool.or_true, true_and, and_true, false_and, and_false, List.set_cons_zero, List.set_cons_succ, List.take_succ_cons, List.take_zero, List.drop_succ_cons, List.drop_zero, List.reverse_cons, List.reverse_nil, List.nil_append, List.cons_append, List.length_cons, List.length_nil, Option.toList_some, Option.toList_none, not_true_eq_false, not_false_eq_true, forall_const, true_implies, false_implies, nrw, TTS, s81, shC hc, and01, isCl, hc, hn, hb, subS, true_and, and_true, or_false]
      rw [mapF_0, xa_id]
    refine vc_for (ix (m.1 c 5)) (fun i => [.ref c, .int b, .int (nI i)]) (fun i => xa m (c + 13) (mapF (m.1 (c + 13)) (fun h => if m.1 (c + 9) h = b ∧ (¬ m.1 (c + 12) h = 0 ∨ m.1 (c + 5) (ix b) = 4) then (if 0 < m.1 (c + 13) h - aCold (kk m c) h then m.1 (c + 13) h - aCold (kk m c) h else 0) else m.1 (c + 13) h) i)) (fun i hi => ?_) ?_
    · refine vc_wp (T := TT [(81, S81)]) (TTc t81 TTn) (fun _ => false) (rt0 := none) rfl (ckl_drop 2 c80) rfl ?_
      have hi2 : ¬ ix (m.1 c 5) ≤ i := by omega
      have hi12 : i < 12 := by have := ix_max (k := 12) hn (by decide); omega
      have hi3 : vp_in (nI i) 12 := xin_nI hi12 (by omega)
      have hi4 : (nI i).toNatClampNeg = i := nI_clamp (by omega)
      simp only [List.drop, i80, wp_iinc, wpE0, wpE1, wpE2, wpE3, wpE4, wpE5, wpJ, okS, lt4S, popR, litS, Int32.reduceLT, Int32.reduceLE, List.getElem?_cons_zero, List.getElem?_cons_succ, Bool.false_eq_true, ↓reduceIte, Nat.reduceMod, Nat.reduceDiv, Nat.reduceAdd, Nat.reduceSub, Nat.reduceMul, Nat.reduceLeDiff, Nat.reduceEqDiff, Nat.reduceBEq, Int.reduceToNat, Int.reduceAdd, Int32.reduceOfInt, Int64.reduceOfInt, Int32.reduceToNatClampNeg, Int32.reduceOfNat, Bool.or_self, Bool.or_false, Bool.false_or, Bool.true_or, Bool.or_true, true_and, and_true, false_and, and_false, List.set_cons_zero, List.set_cons_succ, List.take_succ_cons, List.take_zero, List.drop_succ_cons, List.drop_zero, List.reverse_cons, List.reverse_nil, List.nil_append, List.cons_append, List.length_cons, List.length_nil, Option.toList_some, Option.toList_none, not_true_eq_false, not_false_eq_true, forall_const, true_implies, false_implies, nrw, TTS, s81, shC hc, and01, isCl, hc, hn, hb, subS, xa_1, xa_2, xa_xa, mapF_at, Nat.add_left_cancel_iff, Nat.reduceEqDiff, show ∀ j, (c = c + (j + 1)) = False from fun j => by simp, kk_xa, ix_le _ (show i < 2 ^ 31 by omega), hi2, hi3, hi4, not_true_eq_false, not_false_eq_true, and_true, true_and, and_false, false_and, and_self, or_true, true_or, or_false, false_or, ↓reduceIte, if_true, if_false, eq_self, nI_1]
      repeat' (first | apply And.intro | intro _)
      all_goals first | (rw [mapF_s _ _ _ _ (by simp only [*, not_true_eq_false, not_false_eq_true, and_true, true_and, and_false, false_and, and_self, or_true, true_or, or_false, false_or, ↓reduceIte, if_true, if_false, eq_self])]; done) | (rw [← mapF_k _ _ _ (by simp only [*, not_true_eq_false, not_false_eq_true, and_true, true_and, and_false, false_and, and_self, or_true, true_or, or_false, false_or, ↓reduceIte, if_true, if_false, eq_self])]; done)
    · refine vc_wp (T := TT [(81, S81)]) (TTc t81 TTn) (fun _ => false) (rt0 := none) rfl (ckl_drop 2 c80) rfl ?_
      have hi2 : ix (m.1 c 5) ≤ ix (m.1 c 5) := Nat.le_refl _
      have hi12 : ix (m.1 c 5) < 2 ^ 31 := by have := ix_max (k := 12) hn (by decide); omega
      simp only [List.drop, i80, wp_iinc, wpE0, wpE1, wpE2, wpE3, wpE4, wpE5, wpJ, okS, lt4S, popR, litS, Int32.reduceLT, Int32.reduceLE, List.getElem?_cons_zero, List.getElem?_cons_succ, Bool.false_eq_true, ↓reduceIte, Nat.reduceMod, Nat.reduceDiv, Nat.reduceAdd, Nat.reduceSub, Nat.reduceMul, Nat.reduceLeDiff, Nat.reduceEqDiff, Nat.reduceBEq, Int.reduceToNat, Int.reduceAdd, Int32.reduceOfInt, Int64.reduceOfInt, Int32.reduceToNatClampNeg, Int32.reduceOfNat, Bool.or_self, Bool.or_false, Bool.false_or, Bool.true_or, Bool.or_true, true_and, and_true, false_and, and_false, List.set_cons_zero, List.set_cons_succ, List.take_succ_cons, List.take_zero, List.drop_succ_cons, List.drop_zero, List.reverse_cons, List.reverse_nil, List.nil_append, List.cons_append, List.length_cons, List.length_nil, Option.toList_some, Option.toList_none, not_true_eq_false, not_false_eq_true, forall_const, true_implies, false_implies, nrw, TTS, s81, shC hc, and01, isCl, hc, hn, hb, subS, xa_1, Nat.add_left_cancel_iff, Nat.reduceEqDiff, show ∀ j, (c = c + (j + 1)) = False from fun j => by simp, kk_xa, ix_le _ hi12, hi2, not_true_eq_false, not_false_eq_true, and_true, true_and, and_false, false_and, and_self, or_true, true_or, or_false, false_or, ↓reduceIte, if_true, if_false, eq_self]
      exact h

def S67 (as : List Value) (m : xM) (Q : xQt) : Prop := match as with
  | [.ref c, .int b] => (isC c) ∧ (vp_in b 6) ∧ (m.1 c 5 ≤ 12) ∧ Q (some (.int (aNeed (kk m c) (g6 m c) b))) (m)
  | _ => False
theorem s67 (c : Nat) (b : Int32) (m : xM) (Q : xQt) : S67 [.ref c, .int b] m Q = ((isC c) ∧ (vp_in b 6) ∧ (m.1 c 5 ≤ 12) ∧ Q (some (.int (aNeed (kk m c) (g6 m c) b))) (m)) := rfl
theorem t67 {G : xG} : ∀ as m Q, S67 as m Q → Tri G 67 as m Q := by
  intro as m Q h
  match as, h with
  | [.ref c, .int b], h =>
    obtain ⟨hc, hb, hn, h⟩ := h
    refine tri_wp (T := TT [(68, S68), (69, S69)]) (ls := [.ref c, .int b]) (TTc t68 (TTc t69 TTn)) c67 (by decide +kernel) (rt0 := some .int) rfl rfl (Nat.le_of_ble_eq_true rfl) rfl ?_
    simp only [i67, wp_iinc, wpE0, wpE1, wpE2, wpE3, wpE4, wpE5, wpJ, okS, lt4S, popR, litS, Int32.reduceLT, Int32.reduceLE, List.getElem?_cons_zero, List.getElem?_cons_succ, Bool.false_eq_true, ↓reduceIte, Nat.reduceMod, Nat.reduceDiv, Nat.reduceAdd, Nat.reduceSub, Nat.reduceMul, Nat.reduceLeDiff, Nat.reduceEqDiff, Nat.reduceBEq, Int.reduceToNat, Int.reduceAdd, Int32.reduceOfInt, Int64.reduceOfInt, Int32.reduceToNatClampNeg, Int32.reduceOfNat, Bool.or_self, Bool.or_false, Bool.false_or, Bool.true_or, Bool.or_true, true_and, and_true, false_and, and_false, List.set_cons_zero, List.set_cons_succ, List.take_succ_cons, List.take_zero, List.drop_succ_cons, List.drop_zero, List.reverse_cons, List.reverse_nil, List.nil_append, List.cons_append, List.length_cons, List.length_nil, Option.toList_some, Option.toList_none, not_true_eq_false, not_false_eq_true, forall_const, true_implies, false_implies, nrw, TTS, s68, s69, shC hc, and01, isCl, hc, hb, hn]
    refine ⟨fun q => ?_, fun q => ?_⟩
    · exact Eq.mp (congrArg (fun z => Q (some (.int (10 * m.1 (c + 2) (ix b) + m.1 (c + 6) (ix b) + z))) m) (if_pos q)) h
    · exact Eq.mp (congrArg (fun z => Q (some (.int (10 * m.1 (c + 2) (ix b) + m.1 (c + 6) (ix b) + z))) m) (if_neg q)) h

def S70 (as : List Value) (m : xM) (Q : xQt) : Prop := match as with
  | [.ref c, .int b] => (isC c) ∧ (vp_in b 6) ∧ (m.1 c 5 ≤ 12) ∧ Q (some (.int (aLever (kk m c) (g6 m c) b))) (m)
  | _ => False
theorem s70 (c : Nat) (b : Int32) (m : xM) (Q : xQt) : S70 [.ref c, .int b] m Q = ((isC c) ∧ (vp_in b 6) ∧ (m.1 c 5 ≤ 12) ∧ Q (some (.int (aLever (kk m c) (g6 m c) b))) (m)) := rfl
theorem t70 {G : xG} : ∀ as m Q, S70 as m Q → Tri G 70 as m Q := by
  intro as m Q h
  match as, h with
  | [.ref c, .int b], h =>
    obtain ⟨hc, hb, hn, h⟩ := h
    refine tri_wp (T := TT [(71, S71), (72, S72)]) (ls := [.ref c, .int b]) (TTc t71 (TTc t72 TTn)) c70 (by decide +kernel) (rt0 := some .int) rfl rfl (Nat.le_of_ble_eq_true rfl) rfl ?_
    simp only [i70, wp_iinc, wpE0, wpE1, wpE2, wpE3, wpE4, wpE5, wpJ, okS, lt4S, popR, litS, Int32.reduceLT, Int32.reduceLE, List.getElem?_cons_zero, List.getElem?_cons_succ, Bool.false_eq_true, ↓reduceIte, Nat.reduceMod, Nat.reduceDiv, Nat.reduceAdd, Nat.reduceSub, Nat.reduceMul, Nat.reduceLeDiff, Nat.reduceEqDiff, Nat.reduceBEq, Int.reduceToNat, Int.reduceAdd, Int32.reduceOfInt, Int64.reduceOfInt, Int32.reduceToNatClampNeg, Int32.reduceOfNat, Bool.or_self, Bool.or_false, Bool.false_or, Bool.true_or, Bool.or_true, true_and, and_true, false_and, and_false, List.set_cons_zero, List.set_cons_succ, List.take_succ_cons, List.take_zero, List.drop_succ_cons, List.drop_zero, List.reverse_cons, List.reverse_nil, List.nil_append, List.cons_append, List.length_cons, List.length_nil, Option.toList_some, Option.toList_none, not_true_eq_false, not_false_eq_true, forall_const, true_implies, false_implies, nrw, TTS, s71, s72, shC hc, and01, isCl, hc, hb, hn]
    exact h

def S60 (as : List Value) (m : xM) (Q : xQt) : Prop := match as with
  | [.ref c, .int b] => (isC c) ∧ (vp_in b 6) ∧ (m.1 c 5 ≤ 12) ∧ Q (none) (s6 m c (aCap (kk m c) (g6 m c) b))
  | _ => False
theorem s60 (c : Nat) (b : Int32) (m : xM) (Q : xQt) : S60 [.ref c, .int b] m Q = ((isC c) ∧ (vp_in b 6) ∧ (m.1 c 5 ≤ 12) ∧ Q (none) (s6 m c (aCap (kk m c) (g6 m c) b))) := rfl
theorem t60 {G : xG} : ∀ as m Q, S60 as m Q → Tri G 60 as m Q := by
  intro as m Q h
  match as, h with
  | [.ref c, .int b], h =>
    obtain ⟨hc, hb, hn, h⟩ := h
    refine tri_wp (T := TT [(61, S61)]) (ls := [.ref c, .int b]) (TTc t61 TTn) c60 (by decide +kernel) (rt0 := none) rfl rfl (Nat.le_of_ble_eq_true rfl) rfl ?_
    simp only [i60, wp_iinc, wpE0, wpE1, wpE2, wpE3, wpE4, wpE5, wpJ, okS, lt4S, popR, litS, Int32.reduceLT, Int32.reduceLE, List.getElem?_cons_zero, List.getElem?_cons_succ, Bool.false_eq_true, ↓reduceIte, Nat.reduceMod, Nat.reduceDiv, Nat.reduceAdd, Nat.reduceSub, Nat.reduceMul, Nat.reduceLeDiff, Nat.reduceEqDiff, Nat.reduceBEq, Int.reduceToNat, Int.reduceAdd, Int32.reduceOfInt, Int64.reduceOfInt, Int32.reduceToNatClampNeg, Int32.reduceOfNat, Bool.or_self, Bool.or_false, Bool.false_or, Bool.true_or, Bool.or_true, true_and, and_true, false_and, and_false, List.set_cons_zero, List.set_cons_succ, List.take_succ_cons, List.take_zero, List.drop_succ_cons, List.drop_zero, List.reverse_cons, List.reverse_nil, List.nil_append, List.cons_append, List.length_cons, List.length_nil, Option.toList_some, Option.toList_none, not_true_eq_false, not_false_eq_true, forall_const, true_implies, false_implies, nrw, TTS, s61, shC hc, and01, isCl, s6S, xa_1, xa_2, xb_1, xb_2, Nat.add_left_cancel_iff, Nat.reduceEqDiff, show ∀ j, (c = c + (j + 1)) = False from fun j => by simp, hc, hb, hn]
    refine q_eq h (s6_eq ?_ ?_ ?_ ?_ ?_ ?_ ?_ ?_) <;> (try intros) <;> first | rfl | (simp only [aCap, aSend, kk, g6, kWa, kWi, kMu, kNb, kNh, kBe, kSa, kAi, kFl, kBo, kWe, kLa, xHo, xMa, xWa, xSi, xSp, xGr, s6S, xa_1, xa_2, xb_1, xb_2, Nat.add_left_cancel_iff, Nat.reduceEqDiff, show ∀ j, (c = c + (j + 1)) = False from fun j => by simp, xa_xa, not_true_eq_false, not_false_eq_true, and_true, true_and, and_false, false_and, and_self, or_true, true_or, or_false, false_or, ↓reduceIte, if_true, if_false, eq_self, ne_eq, *]; done) | (simp only [aCap, aSend, kk, g6, kWa, kWi, kMu, kNb, kNh, kBe, kSa, kAi, kFl, kBo, kWe, kLa, xHo, xMa, xWa, xSi, xSp, xGr, s6S, xa_1, xa_2, xb_1, xb_2, Nat.add_left_cancel_iff, Nat.reduceEqDiff, show ∀ j, (c = c + (j + 1)) = False from fun j => by simp, xa_xa, not_true_eq_false, not_false_eq_true, and_true, true_and, and_false, false_and, and_self, or_true, true_or, or_false, false_or, ↓reduceIte, if_true, if_false, eq_self, ne_eq, *]; rfl)

def S75 (as : List Value) (m : xM) (Q : xQt) : Prop := match as with
  | [.ref c, .int b] => (isC c) ∧ (vp_in b 6) ∧ Q (none) (s6 m c (aFill (kk m c) (g6 m c) b))
  | _ => False
theorem s75 (c : Nat) (b : Int32) (m : xM) (Q : xQt) : S75 [.ref c, .int b] m Q = ((isC c) ∧ (vp_in b 6) ∧ Q (none) (s6 m c (aFill (kk m c) (g6 m c) b))) := rfl
theorem t75 {G : xG} : ∀ as m Q, S75 as m Q → Tri G 75 as m Q := by
  intro as m Q h
  match as, h with
  | [.ref c, .int b], h =>
    obtain ⟨hc, hb, h⟩ := h
    refine tri_wp (T := TT []) (ls := [.ref c, .int b]) TTn c75 (by decide +kernel) (rt0 := none) rfl rfl (Nat.le_of_ble_eq_true rfl) rfl ?_
    simp only [i75, wp_iinc, wpE0, wpE1, wpE2, wpE3, wpE4, wpE5, wpJ, okS, lt4S, popR, litS, Int32.reduceLT, Int32.reduceLE, List.getElem?_cons_zero, List.getElem?_cons_succ, Bool.false_eq_true, ↓reduceIte, Nat.reduceMod, Nat.reduceDiv, Nat.reduceAdd, Nat.reduceSub, Nat.reduceMul, Nat.reduceLeDiff, Nat.reduceEqDiff, Nat.reduceBEq, Int.reduceToNat, Int.reduceAdd, Int32.reduceOfInt, Int64.reduceOfInt, Int32.reduceToNatClampNeg, Int32.reduceOfNat, Bool.or_self, Bool.or_false, Bool.false_or, Bool.true_or, Bool.or_true, true_and, and_true, false_and, and_false, List.set_cons_zero, List.set_cons_succ, List.take_succ_cons, List.take_zero, List.drop_succ_cons, List.drop_zero, List.reverse_cons, List.reverse_nil, List.nil_append, List.cons_append, List.length_cons, List.length_nil, Option.toList_some, Option.toList_none, not_true_eq_false, not_false_eq_true, forall_const, true_implies, false_implies, nrw, TTS, shC hc, and01, isCl, lt4S, upd_at, s6S, xa_1, xa_2, xb_1, xb_2, Nat.add_left_cancel_iff, Nat.reduceEqDiff, show ∀ j, (c = c + (j + 1)) = False from fun j => by simp, hc, hb]
    have e : (if (m.1 (c + 6) (ix b) + 20 - m.1 (c + 4) (ix b)) < 100 then m.1 (c + 6) (ix b) + 20 - m.1 (c + 4) (ix b) else 100) = aFillM (kk m c) (g6 m c) b := rfl
    rw [e]
    refine ⟨fun q => ⟨fun q2 => ?_, fun q2 => ?_⟩, fun q => ?_⟩
    · have e2 : aFill (kk m c) (g6 m c) b = (upd (m.1 (c + 5)) (ix b) 2, upd (m.1 (c + 6)) (ix b) (aFillM (kk m c) (g6 m c) b), (g6 m c).2.2) := by
        unfold aFill
        rw [if_pos q, if_pos (show kMu (kk m c) = 0 from q2)]
        rfl
      rw [e2] at h
      refine q_eq h (s6_eq ?_ ?_ ?_ ?_ ?_ ?_ ?_ ?_) <;> (try intros) <;> first | rfl | (simp only [g6, s6S, xa_1, xa_2, xb_1, xb_2, Nat.add_left_cancel_iff, Nat.reduceEqDiff, show ∀ j, (c = c + (j + 1)) = False from fun j => by simp, xa_xa, not_true_eq_false, not_false_eq_true, and_true, true_and, and_false, false_and, and_self, or_true, true_or, or_false, false_or, ↓reduceIte, if_true, if_false, eq_self, ne_eq, *]; done)
    · have e2 : aFill (kk m c) (g6 m c) b = (upd (m.1 (c + 5)) (ix b) 3, upd (m.1 (c + 6)) (ix b) (aFillM (kk m c) (g6 m c) b), (g6 m c).2.2) := by
        unfold aFill
        rw [if_pos q, if_neg (show ¬ kMu (kk m c) = 0 from q2)]
        rfl
      rw [e2] at h
      refine q_eq h (s6_eq ?_ ?_ ?_ ?_ ?_ ?_ ?_ ?_) <;> (try intros) <;> first | rfl | (simp only [g6, s6S, xa_1, xa_2, xb_1, xb_2, Nat.add_left_cancel_iff, Nat.reduceEqDiff, show ∀ j, (c = c + (j + 1)) = False from fun j => by simp, xa_xa, not_true_eq_false, not_false_eq_true, and_true, true_and, and_false, false_and, and_self, or_true, true_or, or_false, false_or, ↓reduceIte, if_true, if_false, eq_self, ne_eq, *]; done)
    · have e2 : aFill (kk m c) (g6 m c) b = (m.1 (c + 5), upd (m.1 (c + 6)) (ix b) (aFillM (kk m c) (g6 m c) b), (g6 m c).2.2) := by
        unfold aFill
        rw [if_neg q]
        rfl
      rw [e2] at h
      refine q_eq h (s6_eq ?_ ?_ ?_ ?_ ?_ ?_ ?_ ?_) <;> (try intros) <;> first | rfl | (simp only [g6, s6S, xa_1, xa_2, xb_1, xb_2, Nat.add_left_cancel_iff, Nat.reduceEqDiff, show ∀ j, (c = c + (j + 1)) = False from fun j => by simp, xa_xa, not_true_eq_false, not_false_eq_true, and_true, true_and, and_false, false_and, and_self, or_true, true_or, or_false, false_or, ↓reduceIte, if_true, if_false, eq_self, ne_eq, *]; done)

def S74 (as : List Value) (m : xM) (Q : xQt) : Prop := match as with
  | [.ref d, .int n] => (isD d) ∧ (1 ≤ n) ∧ Q (some (.long (aDraw (m.2 d 1) - aDraw (m.2 d 1) / n.toInt64 * n.toInt64))) (xb m d (vp_updL (m.2 d) 1 (aDraw (m.2 d 1))))
  | _ => False
theorem s74 (d : Nat) (n : Int32) (m : xM) (Q : xQt) : S74 [.ref d, .int n] m Q = ((isD d) ∧ (1 ≤ n) ∧ Q (some (.long (aDraw (m.2 d 1) - aDraw (m.2 d 1) / n.toInt64 * n.toInt64))) (xb m d (vp_updL (m.2 d) 1 (aDraw (m.2 d 1))))) := rfl
theorem t74 {G : xG} : ∀ as m Q, S74 as m Q → Tri G 74 as m Q := by
  intro as m Q h
  match as, h with
  | [.ref d, .int n], h =>
    obtain ⟨hd, hn1, h⟩ := h
    refine tri_wp (T := TT []) (ls := [.ref d, .int n]) TTn c74 (by decide +kernel) (rt0 := some .long) rfl rfl (Nat.le_of_ble_eq_true rfl) rfl ?_
    simp only [i74, wp_iinc, wpE0, wpE1, wpE2, wpE3, wpE4, wpE5, wpJ, okS, lt4S, popR, litS, Int32.reduceLT, Int32.reduceLE, List.getElem?_cons_zero, List.getElem?_cons_succ, Bool.false_eq_true, ↓reduceIte, Nat.reduceMod, Nat.reduceDiv, Nat.reduceAdd, Nat.reduceSub, Nat.reduceMul, Nat.reduceLeDiff, Nat.reduceEqDiff, Nat.reduceBEq, Int.reduceToNat, Int.reduceAdd, Int32.reduceOfInt, Int64.reduceOfInt, Int32.reduceToNatClampNeg, Int32.reduceOfNat, Bool.or_self, Bool.or_false, Bool.false_or, Bool.true_or, Bool.or_true, true_and, and_true, false_and, and_false, List.set_cons_zero, List.set_cons_succ, List.take_succ_cons, List.take_zero, List.drop_succ_cons, List.drop_zero, List.reverse_cons, List.reverse_nil, List.nil_append, List.cons_append, List.length_cons, List.length_nil, Option.toList_some, Option.toList_none, not_true_eq_false, not_false_eq_true, forall_const, true_implies, false_implies, nrw, TTS, shD hd, isDl, xa_1, xa_2, xb_1, xb_2, Nat.reduceEqDiff, hd, hn1]
    refine ⟨by decide, ?_, ?_⟩
    · intro z
      have z2 := congrArg Int64.toInt z
      rw [Int32.toInt_toInt64] at z2
      have h1 : (1 : Int32).toInt ≤ n.toInt := Int32.le_iff_toInt_le.mp hn1
      have h0 : (1 : Int32).toInt = 1 := by decide
      have h3 : (0 : Int64).toInt = 0 := by decide
      omega
    · exact h
