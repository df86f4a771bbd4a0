theorem xa_ne {m : xM} {k q : Nat} {f : Nat → Int32} (h : q ≠ k) : (xa m k f).1 q = m.1 q := if_neg h
theorem cpy_in {f g : Nat → Int32} {s d n i : Nat} (h1 : d ≤ i) (h2 : i < d + n) : va_cpy f g s d n i = f (s + (i - d)) := if_pos ⟨h1, h2⟩
theorem cpy_out {f g : Nat → Int32} {s d n i : Nat} (h : i < d ∨ d + n ≤ i) : va_cpy f g s d n i = g i := if_neg (by omega)
theorem cpy_00 {f g : Nat → Int32} {n i : Nat} (h : i < n) : va_cpy f g 0 0 n i = f i := by
  rw [cpy_in (by omega) (by omega)]
  congr 1
  omega
theorem cpy_0 (f g : Nat → Int32) (s d : Nat) : va_cpy f g s d 0 = g := by
  funext i
  exact cpy_out (by omega)
theorem cpy_s (f g : Nat → Int32) (s d i : Nat) : upd (va_cpy f g s d i) (d + i) (f (s + i)) = va_cpy f g s d (i + 1) := by
  funext q
  by_cases e : q = d + i
  · rw [upd_eq e, cpy_in (by omega) (by omega)]
    congr 1
    omega
  · rw [upd_ne e]
    by_cases z : d ≤ q ∧ q < d + i
    · rw [cpy_in z.1 z.2, cpy_in (by omega) (by omega)]
    · rw [cpy_out (by omega), cpy_out (by omega)]
/-- all but a club as it was -/
def frC (c : Nat) (m m' : xM) : Prop := ∀ q : Nat, (q < c ∨ c + 13 < q) → m'.1 q = m.1 q
/-- two clubs alike, as far as their rows go -/
def EKK (k k' : KK) : Prop := (kWa k' = kWa k ∧ kWi k' = kWi k ∧ kMu k' = kMu k ∧ kNb k' = kNb k ∧ kNh k' = kNh k) ∧ (∀ b, b < 6 → kBe k' b = kBe k b ∧ kSa k' b = kSa k b ∧ kAi k' b = kAi k b ∧ kFl k' b = kFl k b) ∧ (∀ h, h < 12 → kBo k' h = kBo k h ∧ kWe k' h = kWe k h ∧ kLa k' h = kLa k h)
def EXX (X X' : X6) : Prop := (∀ b, b < 6 → xHo X' b = xHo X b ∧ xMa X' b = xMa X b ∧ xWa X' b = xWa X b ∧ xSi X' b = xSi X b) ∧ (∀ h, h < 12 → xSp X' h = xSp X h ∧ xGr X' h = xGr X h)
theorem cnt_c {p q : Nat → Prop} [DecidablePred p] [DecidablePred q] : ∀ {n : Nat}, (∀ i, i < n → (p i ↔ q i)) → cnt p n = cnt q n
  | 0, _ => rfl
  | n + 1, h => by
    unfold cnt
    rw [cnt_c (n := n) (fun i hi => h i (by omega))]
    by_cases z : p n
    · rw [if_pos z, if_pos ((h n (by omega)).mp z)]
    · rw [if_neg z, if_neg (fun y => z ((h n (by omega)).mpr y))]
theorem EKK.vk {k k' : KK} (e : EKK k k') (h : VKK k) : VKK k' := by
  obtain ⟨⟨e1, e2, e3, e4, e5⟩, eb, eh⟩ := e
  have h6 := (ix_b (n := 6) (by decide) h.1.2.2.2.1).1
  have h12 := (ix_b (n := 12) (by decide) h.1.2.2.2.2).1
  refine ⟨?_, fun b hb => ?_, fun i hi => ?_, fun b => ?_⟩
  · unfold VK1; rw [e1, e2, e3, e4, e5]; exact h.1
  · rw [e4] at hb
    obtain ⟨x1, x2, x3, x4⟩ := eb b (by omega)
    rw [x1, x2, x3, x4]; exact h.2.1 b hb
  · rw [e5] at hi
    obtain ⟨x1, x2, x3⟩ := eh i (by omega)
    rw [x1, x2, x3, e4]; exact h.2.2.1 i hi
  · rw [e5, cnt_c (q := fun h => kBo k h = b) (fun i hi => by rw [(eh i (by omega)).1])]
    exact h.2.2.2 b
theorem EXX.vx {k k' : KK} {X X' : X6} (e : EKK k k') (x : EXX X X') (hk : VKK k) (h : VXX k X) : VXX k' X' := by
  have h6 := (ix_b (n := 6) (by decide) hk.1.2.2.2.1).1
  have h12 := (ix_b (n := 12) (by decide) hk.1.2.2.2.2).1
  refine ⟨fun b hb => ?_, fun i hi => ?_⟩
  · rw [e.1.2.2.2.1] at hb
    obtain ⟨x1, x2, x3, x4⟩ := x.1 b (by omega)
    rw [x1, x2, x3]; exact h.1 b hb
  · rw [e.1.2.2.2.2] at hi
    obtain ⟨x1, x2⟩ := x.2 i (by omega)
    rw [x1, x2]; exact h.2 i hi
/-- the Model's rows alike, as far as they go -/
theorem RC_e {k k' : KK} {X X' : X6} {t t' : Int32} {K f K' f' : Nat → Int32} (h : RC k X t K f) (e : EKK k k') (x : EXX X X') (ht : t' = t) (hK : ∀ i, i < 65 → K' i = K i) (hf : ∀ i, i < 49 → f' i = f i) : RC k' X' t' K' f' := by
  obtain ⟨h1, h2, h3, h4, h5⟩ := h
  have h6 := (ix_b (n := 6) (by decide) h4.1.2.2.2.1).1
  have h12 := (ix_b (n := 12) (by decide) h4.1.2.2.2.2).1
  obtain ⟨⟨a1, a2, a3, a4, a5⟩, ab, ah⟩ := h1
  have c4 : ix (K 4) ≤ 12 := by rw [← a5]; exact h12
  have c3 : ix (K 3) ≤ 6 := by rw [← a4]; exact h6
  obtain ⟨⟨e1, e2, e3, e4, e5⟩, eb, eh⟩ := e
  refine ⟨⟨⟨?_, ?_, ?_, ?_, ?_⟩, fun b hb => ?_, fun i hi => ?_⟩, ⟨fun b hb => ?_, fun i hi => ?_⟩, ?_, EKK.vk ⟨⟨e1, e2, e3, e4, e5⟩, eb, eh⟩ h4, EXX.vx ⟨⟨e1, e2, e3, e4, e5⟩, eb, eh⟩ x h4 h5⟩
  · rw [e1, a1, hK 0 (by omega)]
  · rw [e2, a2, hK 1 (by omega)]
  · rw [e3, a3, hK 2 (by omega)]
  · rw [e4, a4, hK 3 (by omega)]
  · rw [e5, a5, hK 4 (by omega)]
  · rw [hK 3 (by omega)] at hb
    obtain ⟨y1, y2, y3, y4⟩ := ab b hb
    obtain ⟨z1, z2, z3, z4⟩ := eb b (by omega)
    rw [z1, z2, z3, z4, y1, y2, y3, y4, hK _ (by omega), hK _ (by omega), hK _ (by omega), hK _ (by omega)]
    exact ⟨rfl, rfl, rfl, rfl⟩
  · rw [hK 4 (by omega)] at hi
    obtain ⟨y1, y2, y3⟩ := ah i hi
    obtain ⟨z1, z2, z3⟩ := eh i (by omega)
    rw [z1, z2, z3, y1, y2, y3, hK _ (by omega), hK _ (by omega), hK _ (by omega)]
    exact ⟨rfl, rfl, rfl⟩
  · obtain ⟨y1, y2, y3, y4⟩ := h2.1 b hb
    obtain ⟨z1, z2, z3, z4⟩ := x.1 b hb
    rw [z1, z2, z3, z4, y1, y2, y3, y4, hf _ (by omega), hf _ (by omega), hf _ (by omega), hf _ (by omega)]
    exact ⟨rfl, rfl, rfl, rfl⟩
  · rw [hK 4 (by omega)] at hi
    obtain ⟨y1, y2⟩ := h2.2 i hi
    obtain ⟨z1, z2⟩ := x.2 i (by omega)
    rw [z1, z2, y1, y2, hf _ (by omega), hf _ (by omega)]
    exact ⟨rfl, rfl⟩
  · rw [ht, hf 48 (by omega)]; exact h3

def S52 (as : List Value) (m : xM) (Q : xQt) : Prop := match as with
  | [.ref c, .ref d] => ((c = 35 ∧ d = 7) ∨ (c = 49 ∧ d = 7) ∨ (c = 7 ∧ d = 35) ∨ (c = 7 ∧ d = 49) ∨ (c = 7 ∧ d = 21) ∨ (c = 65 ∧ d = 7)) ∧ (m.1 d 2 = 0 ∨ m.1 d 2 = 1) ∧ (∀ m' : xM, frC c m m' → m'.2 = m.2 → EKK (kk m d) (kk m' c) → EXX (g6 m d) (g6 m' c) → m'.1 c 3 = m.1 d 3 → Q none m')
  | _ => False
theorem s52 (c d : Nat) (m : xM) (Q : xQt) : S52 [.ref c, .ref d] m Q = (((c = 35 ∧ d = 7) ∨ (c = 49 ∧ d = 7) ∨ (c = 7 ∧ d = 35) ∨ (c = 7 ∧ d = 49) ∨ (c = 7 ∧ d = 21) ∨ (c = 65 ∧ d = 7)) ∧ (m.1 d 2 = 0 ∨ m.1 d 2 = 1) ∧ (∀ m' : xM, frC c m m' → m'.2 = m.2 → EKK (kk m d) (kk m' c) → EXX (g6 m d) (g6 m' c) → m'.1 c 3 = m.1 d 3 → Q none m')) := rfl
set_option maxRecDepth 30000 in
theorem t52 {G : xG} : ∀ as m Q, S52 as m Q → Tri G 52 as m Q := by
  intro as m Q h
  match as, h with
  | [.ref c, .ref d], h =>
    obtain ⟨hcd, hm, h⟩ := h
    rcases hcd with ⟨rfl, rfl⟩ | ⟨rfl, rfl⟩ | ⟨rfl, rfl⟩ | ⟨rfl, rfl⟩ | ⟨rfl, rfl⟩ | ⟨rfl, rfl⟩
    · refine tri_wp (T := TT []) (ls := [.ref 35, .ref 7]) TTn c52 (by decide +kernel) (rt0 := none) rfl rfl (Nat.le_of_ble_eq_true rfl) rfl ?_
      simp only [i52, wp_iinc, wpE0, wpE1, wpE2, wpE3, wpE4, wpE5, wpJ, okS, lt4S, popR, litS, Int32.reduceLT, Int32.reduceLE, List.getElem?_cons_zero, List.getElem?_cons_succ, Bool.false_eq_true, ↓reduceIte, Nat.reduceMod, Nat.reduceDiv, Nat.reduceAdd, Nat.reduceSub, Nat.reduceMul, Nat.reduceLeDiff, Nat.reduceEqDiff, Nat.reduceBEq, Int.reduceToNat, Int.reduceAdd, Int32.reduceOfInt, Int64.reduceOfInt, Int32.reduceToNatClampNeg, Int32.reduceOfNat, Bool.or_self, Bool.or_false, Bool.false_or, Bool.true_or, Bool.or_true, true_and, and_true, false_and, and_false, List.set_cons_zero, List.set_cons_succ, List.take_succ_cons, List.take_zero, List.drop_succ_cons, List.drop_zero, List.reverse_cons, List.reverse_nil, List.nil_append, List.cons_append, List.length_cons, List.length_nil, Option.toList_some, Option.toList_none, not_true_eq_false, not_false_eq_true, forall_const, true_implies, false_implies, nrw, TTS, sh7L, sh21L, sh35L, sh49L, sh65L, xa_1, xa_2, xa_xa, upd_at, hm, Nat.reduceEqDiff, ↓reduceIte, Nat.reduceAdd, not_true_eq_false, not_false_eq_true, and_true, true_and, and_false, false_and, and_self, or_true, true_or, or_false, false_or, ↓reduceIte, if_true, if_false, eq_self]
      refine h _ (fun q hq => ?_) rfl ⟨⟨rfl, rfl, rfl, rfl, rfl⟩, fun b hb => ⟨cpy_00 hb, cpy_00 hb, cpy_00 hb, cpy_00 hb⟩, fun i hi => ⟨cpy_00 hi, cpy_00 hi, cpy_00 hi⟩⟩ ⟨fun b hb => ⟨cpy_00 hb, cpy_00 hb, cpy_00 hb, cpy_00 hb⟩, fun i hi => ⟨cpy_00 hi, cpy_00 hi⟩⟩ rfl
      exact (xa_ne (show q ≠ 48 by omega)).trans <| (xa_ne (show q ≠ 47 by omega)).trans <| (xa_ne (show q ≠ 46 by omega)).trans <| (xa_ne (show q ≠ 45 by omega)).trans <| (xa_ne (show q ≠ 44 by omega)).trans <| (xa_ne (show q ≠ 43 by omega)).trans <| (xa_ne (show q ≠ 42 by omega)).trans <| (xa_ne (show q ≠ 41 by omega)).trans <| (xa_ne (show q ≠ 40 by omega)).trans <| (xa_ne (show q ≠ 39 by omega)).trans <| (xa_ne (show q ≠ 38 by omega)).trans <| (xa_ne (show q ≠ 37 by omega)).trans <| (xa_ne (show q ≠ 36 by omega)).trans <| (xa_ne (show q ≠ 35 by omega))
    · refine tri_wp (T := TT []) (ls := [.ref 49, .ref 7]) TTn c52 (by decide +kernel) (rt0 := none) rfl rfl (Nat.le_of_ble_eq_true rfl) rfl ?_
      simp only [i52, wp_iinc, wpE0, wpE1, wpE2, wpE3, wpE4, wpE5, wpJ, okS, lt4S, popR, litS, Int32.reduceLT, Int32.reduceLE, List.getElem?_cons_zero, List.getElem?_cons_succ, Bool.false_eq_true, ↓reduceIte, Nat.reduceMod, Nat.reduceDiv, Nat.reduceAdd, Nat.reduceSub, Nat.reduceMul, Nat.reduceLeDiff, Nat.reduceEqDiff, Nat.reduceBEq, Int.reduceToNat, Int.reduceAdd, Int32.reduceOfInt, Int64.reduceOfInt, Int32.reduceToNatClampNeg, Int32.reduceOfNat, Bool.or_self, Bool.or_false, Bool.false_or, Bool.true_or, Bool.or_true, true_and, and_true, false_and, and_false, List.set_cons_zero, List.set_cons_succ, List.take_succ_cons, List.take_zero, List.drop_succ_cons, List.drop_zero, List.reverse_cons, List.reverse_nil, List.nil_append, List.cons_append, List.length_cons, List.length_nil, Option.toList_some, Option.toList_none, not_true_eq_false, not_false_eq_true, forall_const, true_implies, false_implies, nrw, TTS, sh7L, sh21L, sh35L, sh49L, sh65L, xa_1, xa_2, xa_xa, upd_at, hm, Nat.reduceEqDiff, ↓reduceIte, Nat.reduceAdd, not_true_eq_false, not_false_eq_true, and_true, true_and, and_false, false_and, and_self, or_true, true_or, or_false, false_or, ↓reduceIte, if_true, if_false, eq_self]
      refine h _ (fun q hq => ?_) rfl ⟨⟨rfl, rfl, rfl, rfl, rfl⟩, fun b hb => ⟨cpy_00 hb, cpy_00 hb, cpy_00 hb, cpy_00 hb⟩, fun i hi => ⟨cpy_00 hi, cpy_00 hi, cpy_00 hi⟩⟩ ⟨fun b hb => ⟨cpy_00 hb, cpy_00 hb, cpy_00 hb, cpy_00 hb⟩, fun i hi => ⟨cpy_00 hi, cpy_00 hi⟩⟩ rfl
      exact (xa_ne (show q ≠ 62 by omega)).trans <| (xa_ne (show q ≠ 61 by omega)).trans <| (xa_ne (show q ≠ 60 by omega)).trans <| (xa_ne (show q ≠ 59 by omega)).trans <| (xa_ne (show q ≠ 58 by omega)).trans <| (xa_ne (show q ≠ 57 by omega)).trans <| (xa_ne (show q ≠ 56 by omega)).trans <| (xa_ne (show q ≠ 55 by omega)).trans <| (xa_ne (show q ≠ 54 by omega)).trans <| (xa_ne (show q ≠ 53 by omega)).trans <| (xa_ne (show q ≠ 52 by omega)).trans <| (xa_ne (show q ≠ 51 by omega)).trans <| (xa_ne (show q ≠ 50 by omega)).trans <| (xa_ne (show q ≠ 49 by omega))
    · refine tri_wp (T := TT []) (ls := [.ref 7, .ref 35]) TTn c52 (by decide +kernel) (rt0 := none) rfl rfl (Nat.le_of_ble_eq_true rfl) rfl ?_
      simp only [i52, wp_iinc, wpE0, wpE1, wpE2, wpE3, wpE4, wpE5, wpJ, okS, lt4S, popR, litS, Int32.reduceLT, Int32.reduceLE, List.getElem?_cons_zero, List.getElem?_cons_succ, Bool.false_eq_true, ↓reduceIte, Nat.reduceMod, Nat.reduceDiv, Nat.reduceAdd, Nat.reduceSub, Nat.reduceMul, Nat.reduceLeDiff, Nat.reduceEqDiff, Nat.reduceBEq, Int.reduceToNat, Int.reduceAdd, Int32.reduceOfInt, Int64.reduceOfInt, Int32.reduceToNatClampNeg, Int32.reduceOfNat, Bool.or_self, Bool.or_false, Bool.false_or, Bool.true_or, Bool.or_true, true_and, and_true, false_and, and_false, List.set_cons_zero, List.set_cons_succ, List.take_succ_cons, List.take_zero, List.drop_succ_cons, List.drop_zero, List.reverse_cons, List.reverse_nil, List.nil_append, List.cons_append, List.length_cons, List.length_nil, Option.toList_some, Option.toList_none, not_true_eq_false, not_false_eq_true, forall_const, true_implies, false_implies, nrw, TTS, sh7L, sh21L, sh35L, sh49L, sh65L, xa_1, xa_2, xa_xa, upd_at, hm, Nat.reduceEqDiff, ↓reduceIte, Nat.reduceAdd, not_true_eq_false, not_false_eq_true, and_true, true_and, and_false, false_and, and_self, or_true, true_or, or_false, false_or, ↓reduceIte, if_true, if_false, eq_self]
      refine h _ (fun q hq => ?_) rfl ⟨⟨rfl, rfl, rfl, rfl, rfl⟩, fun b hb => ⟨cpy_00 hb, cpy_00 hb, cpy_00 hb, cpy_00 hb⟩, fun i hi => ⟨cpy_00 hi, cpy_00 hi, cpy_00 hi⟩⟩ ⟨fun b hb => ⟨cpy_00 hb, cpy_00 hb, cpy_00 hb, cpy_00 hb⟩, fun i hi => ⟨cpy_00 hi, cpy_00 hi⟩⟩ rfl
      exact (xa_ne (show q ≠ 20 by omega)).trans <| (xa_ne (show q ≠ 19 by omega)).trans <| (xa_ne (show q ≠ 18 by omega)).trans <| (xa_ne (show q ≠ 17 by omega)).trans <| (xa_ne (show q ≠ 16 by omega)).trans <| (xa_ne (show q ≠ 15 by omega)).trans <| (xa_ne (show q ≠ 14 by omega)).trans <| (xa_ne (show q ≠ 13 by omega)).trans <| (xa_ne (show q ≠ 12 by omega)).trans <| (xa_ne (show q ≠ 11 by omega)).trans <| (xa_ne (show q ≠ 10 by omega)).trans <| (xa_ne (show q ≠ 9 by omega)).trans <| (xa_ne (show q ≠ 8 by omega)).trans <| (xa_ne (show q ≠ 7 by omega))
    · refine tri_wp (T := TT []) (ls := [.ref 7, .ref 49]) TTn c52 (by decide +kernel) (rt0 := none) rfl rfl (Nat.le_of_ble_eq_true rfl) rfl ?_
      simp only [i52, wp_iinc, wpE0, wpE1, wpE2, wpE3, wpE4, wpE5, wpJ, okS, lt4S, popR, litS, Int32.reduceLT, Int32.reduceLE, List.getElem?_cons_zero, List.getElem?_cons_succ, Bool.false_eq_true, ↓reduceIte, Nat.reduceMod, Nat.reduceDiv, Nat.reduceAdd, Nat.reduceSub, Nat.reduceMul, Nat.reduceLeDiff, Nat.reduceEqDiff, Nat.reduceBEq, Int.reduceToNat, Int.reduceAdd, Int32.reduceOfInt, Int64.reduceOfInt, Int32.reduceToNatClampNeg, Int32.reduceOfNat, Bool.or_self, Bool.or_false, Bool.false_or, Bool.true_or, Bool.or_true, true_and, and_true, false_and, and_false, List.set_cons_zero, List.set_cons_succ, List.take_succ_cons, List.take_zero, List.drop_succ_cons, List.drop_zero, List.reverse_cons, List.reverse_nil, List.nil_append, List.cons_append, List.length_cons, List.length_nil, Option.toList_some, Option.toList_none, not_true_eq_false, not_false_eq_true, forall_const, true_implies, false_implies, nrw, TTS, sh7L, sh21L, sh35L, sh49L, sh65L, xa_1, xa_2, xa_xa, upd_at, hm, Nat.reduceEqDiff, ↓reduceIte, Nat.reduceAdd, not_true_eq_false, not_false_eq_true, and_true, true_and, and_false, false_and, and_self, or_true, true_or, or_false, false_or, ↓reduceIte, if_true, if_false, eq_self]
      refine h _ (fun q hq => ?_) rfl ⟨⟨rfl, rfl, rfl, rfl, rfl⟩, fun b hb => ⟨cpy_00 hb, cpy_00 hb, cpy_00 hb, cpy_00 hb⟩, fun i hi => ⟨cpy_00 hi, cpy_00 hi, cpy_00 hi⟩⟩ ⟨fun b hb => ⟨cpy_00 hb, cpy_00 hb, cpy_00 hb, cpy_00 hb⟩, fun i hi => ⟨cpy_00 hi, cpy_00 hi⟩⟩ rfl
      exact (xa_ne (show q ≠ 20 by omega)).trans <| (xa_ne (show q ≠ 19 by omega)).trans <| (xa_ne (show q ≠ 18 by omega)).trans <| (xa_ne (show q ≠ 17 by omega)).trans <| (xa_ne (show q ≠ 16 by omega)).trans <| (xa_ne (show q ≠ 15 by omega)).trans <| (xa_ne (show q ≠ 14 by omega)).trans <| (xa_ne (show q ≠ 13 by omega)).trans <| (xa_ne (show q ≠ 12 by omega)).trans <| (xa_ne (show q ≠ 11 by omega)).trans <| (xa_ne (show q ≠ 10 by omega)).trans <| (xa_ne (show q ≠ 9 by omega)).trans <| (xa_ne (show q ≠ 8 by omega)).trans <| (xa_ne (show q ≠ 7 by omega))
    · refine tri_wp (T := TT []) (ls := [.ref 7, .ref 21]) TTn c52 (by decide +kernel) (rt0 := none) rfl rfl (Nat.le_of_ble_eq_true rfl) rfl ?_
      simp only [i52, wp_iinc, wpE0, wpE1, wpE2, wpE3, wpE4, wpE5, wpJ, okS, lt4S, popR, litS, Int32.reduceLT, Int32.reduceLE, List.getElem?_cons_zero, List.getElem?_cons_succ, Bool.false_eq_true, ↓reduceIte, Nat.reduceMod, Nat.reduceDiv, Nat.reduceAdd, Nat.reduceSub, Nat.reduceMul, Nat.reduceLeDiff, Nat.reduceEqDiff, Nat.reduceBEq, Int.reduceToNat, Int.reduceAdd, Int32.reduceOfInt, Int64.reduceOfInt, Int32.reduceToNatClampNeg, Int32.reduceOfNat, Bool.or_self, Bool.or_false, Bool.false_or, Bool.true_or, Bool.or_true, true_and, and_true, false_and, and_false, List.set_cons_zero, List.set_cons_succ, List.take_succ_cons, List.take_zero, List.drop_succ_cons, List.drop_zero, List.reverse_cons, List.reverse_nil, List.nil_append, List.cons_append, List.length_cons, List.length_nil, Option.toList_some, Option.toList_none, not_true_eq_false, not_false_eq_true, forall_const, true_implies, false_implies, nrw, TTS, sh7L, sh21L, sh35L, sh49L, sh65L, xa_1, xa_2, xa_xa, upd_at, hm, Nat.reduceEqDiff, ↓reduceIte, Nat.reduceAdd, not_true_eq_false, not_false_eq_true, and_true, true_and, and_false, false_and, and_self, or_true, true_or, or_false, false_or, ↓reduceIte, if_true, if_false, eq_self]
      refine h _ (fun q hq => ?_) rfl ⟨⟨rfl, rfl, rfl, rfl, rfl⟩, fun b hb => ⟨cpy_00 hb, cpy_00 hb, cpy_00 hb, cpy_00 hb⟩, fun i hi => ⟨cpy_00 hi, cpy_00 hi, cpy_00 hi⟩⟩ ⟨fun b hb => ⟨cpy_00 hb, cpy_00 hb, cpy_00 hb, cpy_00 hb⟩, fun i hi => ⟨cpy_00 hi, cpy_00 hi⟩⟩ rfl
      exact (xa_ne (show q ≠ 20 by omega)).trans <| (xa_ne (show q ≠ 19 by omega)).trans <| (xa_ne (show q ≠ 18 by omega)).trans <| (xa_ne (show q ≠ 17 by omega)).trans <| (xa_ne (show q ≠ 16 by omega)).trans <| (xa_ne (show q ≠ 15 by omega)).trans <| (xa_ne (show q ≠ 14 by omega)).trans <| (xa_ne (show q ≠ 13 by omega)).trans <| (xa_ne (show q ≠ 12 by omega)).trans <| (xa_ne (show q ≠ 11 by omega)).trans <| (xa_ne (show q ≠ 10 by omega)).trans <| (xa_ne (show q ≠ 9 by omega)).trans <| (xa_ne (show q ≠ 8 by omega)).trans <| (xa_ne (show q ≠ 7 by omega))
    · refine tri_wp (T := TT []) (ls := [.ref 65, .ref 7]) TTn c52 (by decide +kernel) (rt0 := none) rfl rfl (Nat.le_of_ble_eq_true rfl) rfl ?_
      simp only [i52, wp_iinc, wpE0, wpE1, wpE2, wpE3, wpE4, wpE5, wpJ, okS, lt4S, popR, litS, Int32.reduceLT, Int32.reduceLE, List.getElem?_cons_zero, List.getElem?_cons_succ, Bool.false_eq_true, ↓reduceIte, Nat.reduceMod, Nat.reduceDiv, Nat.reduceAdd, Nat.reduceSub, Nat.reduceMul, Nat.reduceLeDiff, Nat.reduceEqDiff, Nat.reduceBEq, Int.reduceToNat, Int.reduceAdd, Int32.reduceOfInt, Int64.reduceOfInt, Int32.reduceToNatClampNeg, Int32.reduceOfNat, Bool.or_self, Bool.or_false, Bool.false_or, Bool.true_or, Bool.or_true, true_and, and_true, false_and, and_false, List.set_cons_zero, List.set_cons_succ, List.take_succ_cons, List.take_zero, List.drop_succ_cons, List.drop_zero, List.reverse_cons, List.reverse_nil, List.nil_append, List.cons_append, List.length_cons, List.length_nil, Option.toList_some, Option.toList_none, not_true_eq_false, not_false_eq_true, forall_const, true_implies, false_implies, nrw, TTS, sh7L, sh21L, sh35L, sh49L, sh65L, xa_1, xa_2, xa_xa, upd_at, hm, Nat.reduceEqDiff, ↓reduceIte, Nat.reduceAdd, not_true_eq_false, not_false_eq_true, and_true, true_and, and_false, false_and, and_self, or_true, true_or, or_false, false_or, ↓reduceIte, if_true, if_false, eq_self]
      refine h _ (fun q hq => ?_) rfl ⟨⟨rfl, rfl, rfl, rfl, rfl⟩, fun b hb => ⟨cpy_00 hb, cpy_00 hb, cpy_00 hb, cpy_00 hb⟩, fun i hi => ⟨cpy_00 hi, cpy_00 hi, cpy_00 hi⟩⟩ ⟨fun b hb => ⟨cpy_00 hb, cpy_00 hb, cpy_00 hb, cpy_00 hb⟩, fun i hi => ⟨cpy_00 hi, cpy_00 hi⟩⟩ rfl
      exact (xa_ne (show q ≠ 78 by omega)).trans <| (xa_ne (show q ≠ 77 by omega)).trans <| (xa_ne (show q ≠ 76 by omega)).trans <| (xa_ne (show q ≠ 75 by omega)).trans <| (xa_ne (show q ≠ 74 by omega)).trans <| (xa_ne (show q ≠ 73 by omega)).trans <| (xa_ne (show q ≠ 72 by omega)).trans <| (xa_ne (show q ≠ 71 by omega)).trans <| (xa_ne (show q ≠ 70 by omega)).trans <| (xa_ne (show q ≠ 69 by omega)).trans <| (xa_ne (show q ≠ 68 by omega)).trans <| (xa_ne (show q ≠ 67 by omega)).trans <| (xa_ne (show q ≠ 66 by omega)).trans <| (xa_ne (show q ≠ 65 by omega))
