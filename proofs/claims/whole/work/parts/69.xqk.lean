theorem tw_k : ∀ a, a < 64 → ∀ c, c < 64 → ((nI (64 * a + c) &&& (nI ((64 * a + c) / 2) ^^^ -1)) &&& 1365 = 0 ↔ zr (64 * a + c) = 64 * a + c) := by decide +kernel
theorem tw_r {r : Nat} (h : r < 4096) : ((nI r &&& (nI (r / 2) ^^^ -1)) &&& 1365 = 0) = (zr r = r) := by
  have := tw_k (r / 64) (by omega) (r % 64) (by omega)
  rw [show 64 * (r / 64) + r % 64 = r by omega] at this
  exact propext this
theorem sq1 {r : Nat} (h : r < 4096) : nI r >>> ((1 : Int32) &&& 31) = nI (r / 2) := pk_shrN (by omega) _ 1 (by decide)
theorem zr_b1 {r : Nat} (h : zr r = r) : zr (r - r % 256) = r - r % 256 := by
  have h1 := z2_le (r / 256)
  have h2 := z2_le (r / 16 % 16)
  have h3 := z2_le (r % 16)
  unfold zr at h ⊢
  have e1 : (r - r % 256) / 256 = r / 256 := by omega
  have e2 : (r - r % 256) / 16 % 16 = 0 := by omega
  have e3 : (r - r % 256) % 16 = 0 := by omega
  rw [e1, e2, e3, show z2 0 = 0 from rfl]
  omega
theorem zr_b2 {r : Nat} (h : zr r = r) : zr (r - r % 16) = r - r % 16 := by
  have h1 := z2_le (r / 256)
  have h2 := z2_le (r / 16 % 16)
  have h3 := z2_le (r % 16)
  unfold zr at h ⊢
  have e1 : (r - r % 16) / 256 = r / 256 := by omega
  have e2 : (r - r % 16) / 16 % 16 = r / 16 % 16 := by omega
  have e3 : (r - r % 16) % 16 = 0 := by omega
  rw [e1, e2, e3, show z2 0 = 0 from rfl]
  omega
theorem qtk_ge {k : KK} {X : X6} {b : Int32} {h1 h2 r t : Nat} (ht : t ≤ 21) (h : ∀ s, s + 1 < t → ¬ xHo (qrn k X b h1 h2 r (s + 1)) (ix b) = 0) : t ≤ qtk k X b h1 h2 r := by
  by_cases e : qtk k X b h1 h2 r < 21
  · obtain ⟨s, s1, s2, s3⟩ := qtk_lt e
    rcases Nat.lt_or_ge (s + 1) t with y | y
    · exact absurd s3 (h s y)
    · omega
  · omega
theorem qtk_c {k : KK} {X : X6} {b : Int32} {h1 h2 r u t : Nat} (hd : ∀ s, s < t → dig u (s + 1) = dig r (s + 1)) (h : qtk k X b h1 h2 r ≤ t) (ht : t ≤ 20) : qtk k X b h1 h2 u ≤ qtk k X b h1 h2 r := by
  obtain ⟨s, s1, s2, s3⟩ := qtk_lt (k := k) (X := X) (b := b) (h1 := h1) (h2 := h2) (r := r) (by omega)
  rw [s2]
  refine qtk_hit s1 ?_
  rw [qrn_c (s + 1) (fun x hx => hd x (by omega))]
  exact s3
theorem bq_n (T : Nat → Nat) : ∀ R, (bq T R).1 = 21 → (bq T R).2 = -1000000
  | 0, _ => rfl
  | R + 1, h => by
    by_cases e : T R < (bq T R).1
    · have := bq_21 T R
      rw [bq_take e] at h
      have h : T R = 21 := h
      omega
    · rw [bq_skip (by omega)] at h ⊢
      exact bq_n T R h
/-- the memory of a search -/
def mq (m : xM) (X : X6) (K : Nat → Int32) (f : Nat) (p : Int32) : xM := xa (xa (s6 m 65 X) 80 K) 64 (upd (upd (m.1 64) 5 (nI f)) 6 p)
theorem mq_id {m : xM} {f : Nat} {p : Int32} (h5 : m.1 64 5 = nI f) (h6 : m.1 64 6 = p) : mq m (g6 m 65) (m.1 80) f p = m := by
  unfold mq
  rw [s6_g6, xa_id m 80, upd_id h5, upd_id h6]
  exact xa_id m 64
theorem mqS (m : xM) (X : X6) (K : Nat → Int32) (f : Nat) (p : Int32) : (mq m X K f p).1 64 = upd (upd (m.1 64) 5 (nI f)) 6 p ∧ (mq m X K f p).1 65 = m.1 65 ∧ (mq m X K f p).1 79 = m.1 79 ∧ (mq m X K f p).1 80 = K ∧ (mq m X K f p).1 70 = X.1 ∧ (mq m X K f p).1 72 = X.2.2.1 ∧ kk (mq m X K f p) 65 = kk m 65 ∧ g6 (mq m X K f p) 65 = X := by
  obtain ⟨q1, q2, q3, q4, q5, q6, q7, q8, q9, q10⟩ := q65 m X
  refine ⟨rfl, ?_, ?_, rfl, ?_, ?_, ?_, ?_⟩
  · exact (xa_ne (by omega)).trans <| (xa_ne (by omega)).trans q2
  · exact (xa_ne (by omega)).trans <| (xa_ne (by omega)).trans q3
  · exact (xa_ne (by omega)).trans <| (xa_ne (by omega)).trans q5
  · exact (xa_ne (by omega)).trans <| (xa_ne (by omega)).trans q7
  · exact kk_s6 m 65 X
  · exact g6_s6 m 65 X
theorem mq_s6 (m : xM) (X Y : X6) (K : Nat → Int32) (f : Nat) (p : Int32) : s6 (mq m X K f p) 65 Y = mq m Y K f p := by
  refine (s6_eq (m := mq m X K f p) (m' := mq m Y K f p) (c := 65) (X := Y) ?_ ?_ ?_ ?_ ?_ ?_ (fun q h5 h6 h7 h8 h12 h13 => ?_) rfl).symm
  · exact (s6S m 65 Y).1
  · exact (s6S m 65 Y).2.1
  · exact (s6S m 65 Y).2.2.1
  · exact (s6S m 65 Y).2.2.2.1
  · exact (s6S m 65 Y).2.2.2.2.1
  · exact (s6S m 65 Y).2.2.2.2.2.1
  · show (if q = 64 then _ else if q = 80 then _ else (s6 m 65 Y).1 q) = (if q = 64 then _ else if q = 80 then _ else (s6 m 65 X).1 q)
    have e : (s6 m 65 Y).1 q = (s6 m 65 X).1 q := by
      simp only [s6, if_neg h5, if_neg h6, if_neg h7, if_neg h8, if_neg h12, if_neg h13]
    rw [e]
theorem mq_80 (m : xM) (X : X6) (K K' : Nat → Int32) (f : Nat) (p : Int32) : xa (mq m X K f p) 80 K' = mq m X K' f p := by
  unfold mq
  rw [xa_cm (a := 64) (b := 80) (by decide), xa_xa, xa_cm (a := 80) (b := 64) (by decide), xa_cm (a := 64) (b := 80) (by decide)]
theorem mq_64 (m : xM) (X : X6) (K : Nat → Int32) (f f' : Nat) (p p' : Int32) : xa (mq m X K f p) 64 (upd (upd (upd (upd (m.1 64) 5 (nI f)) 6 p) 5 (nI f')) 6 p') = mq m X K f' p' := by
  unfold mq
  rw [xa_xa]
  congr 1
  funext q
  simp only [upd_at]
  by_cases e1 : q = 6
  · subst e1; simp
  · by_cases e2 : q = 5
    · subst e2; simp
    · simp [e1, e2]
theorem mq_mq (m : xM) (X Y : X6) (K L : Nat → Int32) (f g : Nat) (p u : Int32) : mq (mq m X K f p) Y L g u = mq m Y L g u := by
  have h : mq (mq m X K f p) Y L g u = xa (xa (s6 (mq m X K f p) 65 Y) 80 L) 64 (upd (upd (upd (upd (m.1 64) 5 (nI f)) 6 p) 5 (nI g)) 6 u) := rfl
  rw [h, mq_s6, mq_80, mq_64]
theorem s6_mq (m : xM) (X Y : X6) (K : Nat → Int32) (f : Nat) (p : Int32) : mq (s6 m 65 X) Y K f p = mq m Y K f p := by
  unfold mq
  rw [s6_s6, (q65 m X).1]

theorem t98x {G : xG} {m : xM} {Q : xQt} {r : Nat} (hr : r < 4096) (hq : Q (some (.int (bI (¬ zr r = r)))) m) : Tri G 98 [.int (nI r)] m Q := by
  by_cases z : zr r = r
  · have z' := z
    rw [← tw_r hr] at z'
    rw [bI_f (fun y => y z)] at hq
    refine tri_wp (T := TT []) (ls := [.int (nI r)]) TTn c98 (by decide +kernel) (rt0 := some .boolean) rfl rfl (Nat.le_of_ble_eq_true rfl) rfl ?_
    simp only [i98, wp_iinc, wpE0, wpE1, wpE2, wpE3, wpE4, wpE5, wpJ, okS, lt4S, popR, litS, Int32.reduceLT, Int32.reduceLE, List.getElem?_cons_zero, List.getElem?_cons_succ, Bool.false_eq_true, ↓reduceIte, Nat.reduceMod, Nat.reduceDiv, Nat.reduceAdd, Nat.reduceSub, Nat.reduceMul, Nat.reduceLeDiff, Nat.reduceEqDiff, Nat.reduceBEq, Int.reduceToNat, Int.reduceAdd, Int32.reduceOfInt, Int64.reduceOfInt, Int32.reduceToNatClampNeg, Int32.reduceOfNat, Bool.or_self, Bool.or_false, Bool.false_or, Bool.true_or, Bool.or_true, true_and, and_true, false_and, and_false, List.set_cons_zero, List.set_cons_succ, List.take_succ_cons, List.take_zero, List.drop_succ_cons, List.drop_zero, List.reverse_cons, List.reverse_nil, List.nil_append, List.cons_append, List.length_cons, List.length_nil, Option.toList_some, Option.toList_none, not_true_eq_false, not_false_eq_true, forall_const, true_implies, false_implies, nrw, TTS, and01, sq1 hr, ofI1, z', not_true_eq_false, not_false_eq_true, and_true, true_and, and_false, false_and, and_self, or_true, true_or, or_false, false_or, ↓reduceIte, if_true, if_false, eq_self]
    exact hq
  · have z' := z
    rw [← tw_r hr] at z'
    rw [bI_t z] at hq
    refine tri_wp (T := TT []) (ls := [.int (nI r)]) TTn c98 (by decide +kernel) (rt0 := some .boolean) rfl rfl (Nat.le_of_ble_eq_true rfl) rfl ?_
    simp only [i98, wp_iinc, wpE0, wpE1, wpE2, wpE3, wpE4, wpE5, wpJ, okS, lt4S, popR, litS, Int32.reduceLT, Int32.reduceLE, List.getElem?_cons_zero, List.getElem?_cons_succ, Bool.false_eq_true, ↓reduceIte, Nat.reduceMod, Nat.reduceDiv, Nat.reduceAdd, Nat.reduceSub, Nat.reduceMul, Nat.reduceLeDiff, Nat.reduceEqDiff, Nat.reduceBEq, Int.reduceToNat, Int.reduceAdd, Int32.reduceOfInt, Int64.reduceOfInt, Int32.reduceToNatClampNeg, Int32.reduceOfNat, Bool.or_self, Bool.or_false, Bool.false_or, Bool.true_or, Bool.or_true, true_and, and_true, false_and, and_false, List.set_cons_zero, List.set_cons_succ, List.take_succ_cons, List.take_zero, List.drop_succ_cons, List.drop_zero, List.reverse_cons, List.reverse_nil, List.nil_append, List.cons_append, List.length_cons, List.length_nil, Option.toList_some, Option.toList_none, not_true_eq_false, not_false_eq_true, forall_const, true_implies, false_implies, nrw, TTS, and01, sq1 hr, ofI1, z', not_true_eq_false, not_false_eq_true, and_true, true_and, and_false, false_and, and_self, or_true, true_or, or_false, false_or, ↓reduceIte, if_true, if_false, eq_self]
    exact hq

theorem t101x {G : xG} {m : xM} {Q : xQt} {r t : Nat} (hr : r < 4096) (ht : t ≤ 30) (hq : Q (some (.int (nI (dig r t)))) m) : Tri G 101 [.int (nI r), .int (nI t)] m Q := by
  have a1 : nI r / 256 = nI (r / 256) := pk_div (d := 256) (by omega) (by omega) (by omega)
  have a2 : nI r / 16 = nI (r / 16) := pk_div (d := 16) (by omega) (by omega) (by omega)
  have a3 : nI (r / 16) / 16 = nI (r / 16 / 16) := pk_div (d := 16) (by omega) (by omega) (by omega)
  have a4 : nI (r / 16) - nI (r / 16 / 16 * 16) = nI (r / 16 % 16) := by rw [nI_sub (by omega)]; congr 1; omega
  have a5 : nI r - nI (r / 16 * 16) = nI (r % 16) := by rw [nI_sub (by omega)]; congr 1; omega
  by_cases e1 : t = 1
  · have e1' : nI t = 1 := by rw [e1]; rfl
    rw [show dig r t = r / 256 from if_pos e1] at hq
    refine tri_wp (T := TT []) (ls := [.int (nI r), .int (nI t)]) TTn c101 (by decide +kernel) (rt0 := some .int) rfl rfl (Nat.le_of_ble_eq_true rfl) rfl ?_
    simp only [i101, wp_iinc, wpE0, wpE1, wpE2, wpE3, wpE4, wpE5, wpJ, okS, lt4S, popR, litS, Int32.reduceLT, Int32.reduceLE, List.getElem?_cons_zero, List.getElem?_cons_succ, Bool.false_eq_true, ↓reduceIte, Nat.reduceMod, Nat.reduceDiv, Nat.reduceAdd, Nat.reduceSub, Nat.reduceMul, Nat.reduceLeDiff, Nat.reduceEqDiff, Nat.reduceBEq, Int.reduceToNat, Int.reduceAdd, Int32.reduceOfInt, Int64.reduceOfInt, Int32.reduceToNatClampNeg, Int32.reduceOfNat, Bool.or_self, Bool.or_false, Bool.false_or, Bool.true_or, Bool.or_true, true_and, and_true, false_and, and_false, List.set_cons_zero, List.set_cons_succ, List.take_succ_cons, List.take_zero, List.drop_succ_cons, List.drop_zero, List.reverse_cons, List.reverse_nil, List.nil_append, List.cons_append, List.length_cons, List.length_nil, Option.toList_some, Option.toList_none, not_true_eq_false, not_false_eq_true, forall_const, true_implies, false_implies, nrw, TTS, linS, lq16, a1, a2, a3, a4, a5, e1', not_true_eq_false, not_false_eq_true, and_true, true_and, and_false, false_and, and_self, or_true, true_or, or_false, false_or, ↓reduceIte, if_true, if_false, eq_self]
    exact hq
  · have e1' : ¬ nI t = 1 := fun y => e1 ((nI_eq (a := t) (b := 1) (by omega) (by omega)).mp y)
    by_cases e2 : t = 2
    · have e2' : nI t = 2 := by rw [e2]; rfl
      rw [show dig r t = r / 16 % 16 from (if_neg e1).trans (if_pos e2)] at hq
      refine tri_wp (T := TT []) (ls := [.int (nI r), .int (nI t)]) TTn c101 (by decide +kernel) (rt0 := some .int) rfl rfl (Nat.le_of_ble_eq_true rfl) rfl ?_
      simp only [i101, wp_iinc, wpE0, wpE1, wpE2, wpE3, wpE4, wpE5, wpJ, okS, lt4S, popR, litS, Int32.reduceLT, Int32.reduceLE, List.getElem?_cons_zero, List.getElem?_cons_succ, Bool.false_eq_true, ↓reduceIte, Nat.reduceMod, Nat.reduceDiv, Nat.reduceAdd, Nat.reduceSub, Nat.reduceMul, Nat.reduceLeDiff, Nat.reduceEqDiff, Nat.reduceBEq, Int.reduceToNat, Int.reduceAdd, Int32.reduceOfInt, Int64.reduceOfInt, Int32.reduceToNatClampNeg, Int32.reduceOfNat, Bool.or_self, Bool.or_false, Bool.false_or, Bool.true_or, Bool.or_true, true_and, and_true, false_and, and_false, List.set_cons_zero, List.set_cons_succ, List.take_succ_cons, List.take_zero, List.drop_succ_cons, List.drop_zero, List.reverse_cons, List.reverse_nil, List.nil_append, List.cons_append, List.length_cons, List.length_nil, Option.toList_some, Option.toList_none, not_true_eq_false, not_false_eq_true, forall_const, true_implies, false_implies, nrw, TTS, linS, lq16, a1, a2, a3, a4, a5, e1', e2', not_true_eq_false, not_false_eq_true, and_true, true_and, and_false, false_and, and_self, or_true, true_or, or_false, false_or, ↓reduceIte, if_true, if_false, eq_self]
      exact hq
    · have e2' : ¬ nI t = 2 := fun y => e2 ((nI_eq (a := t) (b := 2) (by omega) (by omega)).mp y)
      rw [show dig r t = r % 16 from (if_neg e1).trans (if_neg e2)] at hq
      refine tri_wp (T := TT []) (ls := [.int (nI r), .int (nI t)]) TTn c101 (by decide +kernel) (rt0 := some .int) rfl rfl (Nat.le_of_ble_eq_true rfl) rfl ?_
      simp only [i101, wp_iinc, wpE0, wpE1, wpE2, wpE3, wpE4, wpE5, wpJ, okS, lt4S, popR, litS, Int32.reduceLT, Int32.reduceLE, List.getElem?_cons_zero, List.getElem?_cons_succ, Bool.false_eq_true, ↓reduceIte, Nat.reduceMod, Nat.reduceDiv, Nat.reduceAdd, Nat.reduceSub, Nat.reduceMul, Nat.reduceLeDiff, Nat.reduceEqDiff, Nat.reduceBEq, Int.reduceToNat, Int.reduceAdd, Int32.reduceOfInt, Int64.reduceOfInt, Int32.reduceToNatClampNeg, Int32.reduceOfNat, Bool.or_self, Bool.or_false, Bool.false_or, Bool.true_or, Bool.or_true, true_and, and_true, false_and, and_false, List.set_cons_zero, List.set_cons_succ, List.take_succ_cons, List.take_zero, List.drop_succ_cons, List.drop_zero, List.reverse_cons, List.reverse_nil, List.nil_append, List.cons_append, List.length_cons, List.length_nil, Option.toList_some, Option.toList_none, not_true_eq_false, not_false_eq_true, forall_const, true_implies, false_implies, nrw, TTS, linS, lq16, a1, a2, a3, a4, a5, e1', e2', not_true_eq_false, not_false_eq_true, and_true, true_and, and_false, false_and, and_self, or_true, true_or, or_false, false_or, ↓reduceIte, if_true, if_false, eq_self]
      exact hq

def S101T (G : xG) (as : List Value) (m : xM) (Q : xQt) : Prop := Tri G 101 as m Q
def S102T (G : xG) (as : List Value) (m : xM) (Q : xQt) : Prop := Tri G 102 as m Q
def S97T (G : xG) (as : List Value) (m : xM) (Q : xQt) : Prop := Tri G 97 as m Q
def S100T (G : xG) (as : List Value) (m : xM) (Q : xQt) : Prop := Tri G 100 as m Q

theorem v99 {G : xG} {m : xM} {Q : xQt} {k : KK} {X0 : X6} {j h1 h2 r fr f : Nat} {p : Int32} (hkk : kk m 65 = k) (hvk : VKK k) (hvx : VXX k X0) (hj : j < ix (kNb k)) (hh : h1 ≠ h2) (hh1 : h1 < 12) (hh2 : h2 < 12) (h3 : m.1 64 3 = nI h1) (h4 : m.1 64 4 = nI h2) (h79 : m.1 79 0 = 1) (n12 : m.1 65 5 ≤ 12) (h5 : m.1 64 5 = nI f) (h6 : m.1 64 6 = p) (hf : 1 ≤ f ∧ f ≤ 21) (hr : r < 4096) (hfr : 1 ≤ fr ∧ fr ≤ 3) (hno : f ≤ (qtk k X0 (nI j) h1 h2 r) ∨ fr ≤ (qtk k X0 (nI j) h1 h2 r)) (hq0 : qhd (m.1 80) 0 X0 j) (hd1 : 2 ≤ fr → 1 < f → qhd (m.1 80) 1 (qrn k X0 (nI j) h1 h2 r 1) j) (hd2 : 3 ≤ fr → 2 < f → qhd (m.1 80) 2 (qrn k X0 (nI j) h1 h2 r 2) j) (hX : fr < f → ∃ d, g6 m 65 = qsi (qrn k X0 (nI j) h1 h2 r (fr - 1)) d) (hX2 : qfr j X0 (g6 m 65)) (hq : ∀ Y L fw pl, (((qtk k X0 (nI j) h1 h2 r) < f ∧ fw = (qtk k X0 (nI j) h1 h2 r) ∧ pl = nI (r / 256)) ∨ (f ≤ (qtk k X0 (nI j) h1 h2 r) ∧ fw = f ∧ pl = p)) → qfr j X0 Y → qhd L 0 X0 j → (1 < fw → qhd L 1 (qrn k X0 (nI j) h1 h2 r 1) j) → (2 < fw → qhd L 2 (qrn k X0 (nI j) h1 h2 r 2) j) → Q none (mq m Y L fw pl)) : VC G 99 Q (fun _ _ _ _ => False) 34 [.ref 64, .int (nI j), .int (nI r), .int (nI fr), .int (nI fr), .null, .null] [] m := by
  have nb6 : ix (kNb k) ≤ 6 := (ix_b (n := 6) (by decide) hvk.1.2.2.2.1).1
  have nh12 : ix (kNh k) ≤ 12 := (ix_b (n := 12) (by decide) hvk.1.2.2.2.2).1
  have hj6 : j < 6 := by omega
  have hjj : ix (nI j) = j := ix_nI (by omega)
  have hbb : ix (nI j) < ix (kNb k) := by rw [hjj]; exact hj
  have l16 := lq16
  generalize hI : (fun (n : Nat) (ls : List Value) (m' : xM) => ∃ (t : Nat) (Y : X6) (L : Nat → Int32) (fw : Nat) (pl : Int32) (x5 x6 : Value), ls = [.ref 64, .int (nI j), .int (nI r), .int (nI fr), .int (nI t), x5, x6] ∧ mq m Y L fw pl = m' ∧ n = 30 - t ∧ 1 ≤ t ∧ t ≤ 22 ∧ qfr j X0 Y ∧ qhd L 0 X0 j ∧ ((fw = f ∧ pl = p ∧ fr ≤ t ∧ (t < f → ∃ d, Y = qsi (qrn k X0 (nI j) h1 h2 r (t - 1)) d) ∧ (t ≤ f ∨ t = fr) ∧ (fr < f → ∀ s, s + 1 < t → ¬ xHo (qrn k X0 (nI j) h1 h2 r (s + 1)) j = 0) ∧ (2 ≤ t → 1 < f → qhd L 1 (qrn k X0 (nI j) h1 h2 r 1) j) ∧ (3 ≤ t → 2 < f → qhd L 2 (qrn k X0 (nI j) h1 h2 r 2) j)) ∨ (fw = (qtk k X0 (nI j) h1 h2 r) ∧ (qtk k X0 (nI j) h1 h2 r) < f ∧ pl = nI (r / 256) ∧ t = (qtk k X0 (nI j) h1 h2 r) + 1 ∧ (1 < fw → qhd L 1 (qrn k X0 (nI j) h1 h2 r 1) j) ∧ (2 < fw → qhd L 2 (qrn k X0 (nI j) h1 h2 r 2) j)))) = I
  have hI0 : I (30 - fr) [.ref 64, .int (nI j), .int (nI r), .int (nI fr), .int (nI fr), .null, .null] m := by
    rw [← hI]
    refine ⟨fr, g6 m 65, m.1 80, f, p, .null, .null, rfl, mq_id h5 h6, rfl, by omega, by omega, hX2, hq0, Or.inl ⟨rfl, rfl, Nat.le_refl _, hX, Or.inr rfl, fun y s hs => ?_, hd1, hd2⟩⟩
    have := qtk_no (k := k) (X := X0) (b := nI j) (h1 := h1) (h2 := h2) (r := r) (s := s) (by omega)
    rw [hjj] at this
    exact this
  refine vc_loop I (fun n ls m' hi => ?_) _ _ _ hI0
  rw [← hI] at hi
  obtain ⟨t, Y, L, fw, pl, x5, x6, rfl, rfl, rfl, t1, t22, hfY, hL0, hcase⟩ := hi
  have e64 : upd (upd (m.1 64) 5 (nI fw)) 6 pl 5 = nI fw := (upd_ne (by omega)).trans (upd_eq rfl)
  rcases hcase with ⟨rfl, rfl, r1, r2, r3, r4, r5, r6⟩ | ⟨rfl, d1, rfl, rfl, d4, d5⟩
  · by_cases htf : t < fw
    · obtain ⟨d, rfl⟩ := r2 htf
      have c1 : ¬ nI fw ≤ nI t := nI_ge htf (by omega)
      have c1' : nI t < nI fw := Int32.not_le.mp c1
      obtain ⟨dd, hdd⟩ := qst_si k (qrn k X0 (nI j) h1 h2 r (t - 1)) d (nI j) h1 h2 (dig r t)
      have eqt : qst k (qrn k X0 (nI j) h1 h2 r (t - 1)) (nI j) h1 h2 (dig r t) = (qrn k X0 (nI j) h1 h2 r t) := by
        have : (qrn k X0 (nI j) h1 h2 r t) = (qrn k X0 (nI j) h1 h2 r (t - 1 + 1)) := by rw [show t - 1 + 1 = t by omega]
        rw [this]
        show _ = qst k (qrn k X0 (nI j) h1 h2 r (t - 1)) (nI j) h1 h2 (dig r (t - 1 + 1))
        rw [show t - 1 + 1 = t by omega]
      rw [eqt] at hdd
      have hup : (xHo (qsi (qrn k X0 (nI j) h1 h2 r t) dd) j = 0) = (xHo (qrn k X0 (nI j) h1 h2 r t) j = 0) := rfl
      have hfr2 : qfr j X0 (qsi (qrn k X0 (nI j) h1 h2 r t) dd) := by
        have := qfr_qrn (k := k) (X := X0) (b := nI j) (h1 := h1) (h2 := h2) (r := r) nh12 hh1 hh2 t
        rw [hjj] at this
        exact this
      have r4' := r4 (by omega)
      refine vc_wp (T := TT [(101, S101T G), (102, S102T G), (97, S97T G), (100, S100T G)]) (TTc (fun as m Q h => h) (TTc (fun as m Q h => h) (TTc (fun as m Q h => h) (TTc (fun as m Q h => h) TTn)))) (fun _ => false) (rt0 := none) rfl (ckl_drop 20 c99) rfl ?_
      simp (disch := omega) only [List.drop, i99, wp_iinc, wpE0, wpE1, wpE2, wpE3, wpE4, wpE5, wpJ, okS, lt4S, popR, litS, Int32.reduceLT, Int32.reduceLE, List.getElem?_cons_zero, List.getElem?_cons_succ, Bool.false_eq_true, ↓reduceIte, Nat.reduceMod, Nat.reduceDiv, Nat.reduceAdd, Nat.reduceSub, Nat.reduceMul, Nat.reduceLeDiff, Nat.reduceEqDiff, Nat.reduceBEq, Int.reduceToNat, Int.reduceAdd, Int32.reduceOfInt, Int64.reduceOfInt, Int32.reduceToNatClampNeg, Int32.reduceOfNat, Bool.or_self, Bool.or_false, Bool.false_or, Bool.true_or, Bool.or_true, true_and, and_true, false_and, and_false, List.set_cons_zero, List.set_cons_succ, List.take_succ_cons, List.take_zero, List.drop_succ_cons, List.drop_zero, List.reverse_cons, List.reverse_nil, List.nil_append, List.cons_append, List.length_cons, List.length_nil, Option.toList_some, Option.toList_none, not_true_eq_false, not_false_eq_true, forall_const, true_implies, false_implies, nrw, TTS, shO, sh7L, and01, bI_0, bI_and, isCl, isRl, cmpS, toLS, toL_le, toL_lt, i2lS, inM, Int64.reduceLE, Int64.reduceLT, xa_1, xa_2, xa_xa, upd_at, updU, Nat.reduceEqDiff, ↓reduceIte, not_true_eq_false, not_false_eq_true, and_true, true_and, and_false, false_and, and_self, or_true, true_or, or_false, false_or, ↓reduceIte, if_true, if_false, eq_self, sh65L, clN, inN, inLS, linS, nI_add, mqS, S101T, S102T, S97T, c1, c1', e64, not_true_eq_false, not_false_eq_true, and_true, true_and, and_false, false_and, and_self, or_true, true_or, or_false, false_or, ↓reduceIte, if_true, if_false, eq_self]
      refine t101x hr (by omega) ?_
      simp (disch := omega) only [wp_iinc, wpE0, wpE1, wpE2, wpE3, wpE4, wpE5, wpJ, okS, lt4S, popR, litS, Int32.reduceLT, Int32.reduceLE, List.getElem?_cons_zero, List.getElem?_cons_succ, Bool.false_eq_true, ↓reduceIte, Nat.reduceMod, Nat.reduceDiv, Nat.reduceAdd, Nat.reduceSub, Nat.reduceMul, Nat.reduceLeDiff, Nat.reduceEqDiff, Nat.reduceBEq, Int.reduceToNat, Int.reduceAdd, Int32.reduceOfInt, Int64.reduceOfInt, Int32.reduceToNatClampNeg, Int32.reduceOfNat, Bool.or_self, Bool.or_false, Bool.false_or, Bool.true_or, Bool.or_true, true_and, and_true, false_and, and_false, List.set_cons_zero, List.set_cons_succ, List.take_succ_cons, List.take_zero, List.drop_succ_cons, List.drop_zero, List.reverse_cons, List.reverse_nil, List.nil_append, List.cons_append, List.length_cons, List.length_nil, Option.toList_some, Option.toList_none, not_true_eq_false, not_false_eq_true, forall_const, true_implies, false_implies, nrw, TTS, shO, sh7L, and01, bI_0, bI_and, isCl, isRl, cmpS, toLS, toL_le, toL_lt, i2lS, inM, Int64.reduceLE, Int64.reduceLT, xa_1, xa_2, xa_xa, upd_at, updU, Nat.reduceEqDiff, ↓reduceIte, not_true_eq_false, not_false_eq_true, and_true, true_and, and_false, false_and, and_self, or_true, true_or, or_false, false_or, ↓reduceIte, if_true, if_false, eq_self, sh65L, clN, inN, inLS, linS, nI_add, mqS, S101T, S102T, S97T, nI_1, not_true_eq_false, not_false_eq_true, and_true, true_and, and_false, false_and, and_self, or_true, true_or, or_false, false_or, ↓reduceIte, if_true, if_false, eq_self]
      refine t102x (D := dig r t) hh1 hh2 hj6 (dig_lt hr t) ?_ ?_ ?_ ?_ ?_
      · exact (congrFun (mqS m _ _ _ _).1 3).trans ((upd_ne (by omega)).trans ((upd_ne (by omega)).trans h3))
      · exact (congrFun (mqS m _ _ _ _).1 4).trans ((upd_ne (by omega)).trans ((upd_ne (by omega)).trans h4))
      · rw [(mqS m _ _ _ _).2.2.1]; exact h79
      · rw [(mqS m _ _ _ _).2.1]; exact n12
      rw [(mqS m _ _ _ _).2.2.2.2.2.2.1, (mqS m _ _ _ _).2.2.2.2.2.2.2, hkk, hdd, mq_s6]
      by_cases y : xHo (qrn k X0 (nI j) h1 h2 r t) j = 0
      · have hT : (qtk k X0 (nI j) h1 h2 r) = t := by
          have := qtk_eq (k := k) (X := X0) (b := nI j) (h1 := h1) (h2 := h2) (r := r) (s := t - 1) (by omega) (by rw [show t - 1 + 1 = t by omega, hjj]; exact y) (fun s hs => by rw [hjj]; exact r4' s (by omega))
          omega
        rw [bI_t (hup ▸ y)]
        simp (disch := omega) only [wp_iinc, wpE0, wpE1, wpE2, wpE3, wpE4, wpE5, wpJ, okS, lt4S, popR, litS, Int32.reduceLT, Int32.reduceLE, List.getElem?_cons_zero, List.getElem?_cons_succ, Bool.false_eq_true, ↓reduceIte, Nat.reduceMod, Nat.reduceDiv, Nat.reduceAdd, Nat.reduceSub, Nat.reduceMul, Nat.reduceLeDiff, Nat.reduceEqDiff, Nat.reduceBEq, Int.reduceToNat, Int.reduceAdd, Int32.reduceOfInt, Int64.reduceOfInt, Int32.reduceToNatClampNeg, Int32.reduceOfNat, Bool.or_self, Bool.or_false, Bool.false_or, Bool.true_or, Bool.or_true, true_and, and_true, false_and, and_false, List.set_cons_zero, List.set_cons_succ, List.take_succ_cons, List.take_zero, List.drop_succ_cons, List.drop_zero, List.reverse_cons, List.reverse_nil, List.nil_append, List.cons_append, List.length_cons, List.length_nil, Option.toList_some, Option.toList_none, not_true_eq_false, not_false_eq_true, forall_const, true_implies, false_implies, nrw, TTS, shO, sh7L, and01, bI_0, bI_and, isCl, isRl, cmpS, toLS, toL_le, toL_lt, i2lS, inM, Int64.reduceLE, Int64.reduceLT, xa_1, xa_2, xa_xa, upd_at, updU, Nat.reduceEqDiff, ↓reduceIte, not_true_eq_false, not_false_eq_true, and_true, true_and, and_false, false_and, and_self, or_true, true_or, or_false, false_or, ↓reduceIte, if_true, if_false, eq_self, sh65L, clN, inN, inLS, linS, nI_add, mqS, S101T, S102T, S97T, l16, (show nI r / 256 = nI (r / 256) from pk_div (d := 256) (by omega) (by omega) (by omega)), nI_1, not_true_eq_false, not_false_eq_true, and_true, true_and, and_false, false_and, and_self, or_true, true_or, or_false, false_or, ↓reduceIte, if_true, if_false, eq_self]
        refine ⟨30 - (t + 1), by omega, ?_⟩
        rw [← hI]
        refine ⟨t + 1, _, L, t, nI (r / 256), _, _, rfl, (mq_64 m _ _ _ _ _ _).symm, rfl, by omega, by omega, hfr2, hL0, Or.inr ⟨hT.symm, by omega, rfl, by omega, fun z => r5 (by omega) (by omega), fun z => r6 (by omega) (by omega)⟩⟩
      · have hno' : ∀ s, s + 1 < t + 1 → ¬ xHo (qrn k X0 (nI j) h1 h2 r (s + 1)) j = 0 := fun s hs => by
          by_cases e : s + 1 = t
          · rw [e]; exact y
          · exact r4' s (by omega)
        rw [bI_f (fun z => y (hup ▸ z))]
        have hY : t + 1 < fw → ∃ d, qsi (qrn k X0 (nI j) h1 h2 r t) dd = qsi (qrn k X0 (nI j) h1 h2 r (t + 1 - 1)) d := fun _ => ⟨dd, by rw [show t + 1 - 1 = t by omega]⟩
        by_cases e3 : t < 3
        · have c3 : ¬ 3 ≤ nI t := nI_ge (b := 3) e3 (by omega)
          have c3' : nI t < 3 := Int32.not_le.mp c3
          simp (disch := omega) only [wp_iinc, wpE0, wpE1, wpE2, wpE3, wpE4, wpE5, wpJ, okS, lt4S, popR, litS, Int32.reduceLT, Int32.reduceLE, List.getElem?_cons_zero, List.getElem?_cons_succ, Bool.false_eq_true, ↓reduceIte, Nat.reduceMod, Nat.reduceDiv, Nat.reduceAdd, Nat.reduceSub, Nat.reduceMul, Nat.reduceLeDiff, Nat.reduceEqDiff, Nat.reduceBEq, Int.reduceToNat, Int.reduceAdd, Int32.reduceOfInt, Int64.reduceOfInt, Int32.reduceToNatClampNeg, Int32.reduceOfNat, Bool.or_self, Bool.or_false, Bool.false_or, Bool.true_or, Bool.or_true, true_and, and_true, false_and, and_false, List.set_cons_zero, List.set_cons_succ, List.take_succ_cons, List.take_zero, List.drop_succ_cons, List.drop_zero, List.reverse_cons, List.reverse_nil, List.nil_append, List.cons_append, List.length_cons, List.length_nil, Option.toList_some, Option.toList_none, not_true_eq_false, not_false_eq_true, forall_const, true_implies, false_implies, nrw, TTS, shO, sh7L, and01, bI_0, bI_and, isCl, isRl, cmpS, toLS, toL_le, toL_lt, i2lS, inM, Int64.reduceLE, Int64.reduceLT, xa_1, xa_2, xa_xa, upd_at, updU, Nat.reduceEqDiff, ↓reduceIte, not_true_eq_false, not_false_eq_true, and_true, true_and, and_false, false_and, and_self, or_true, true_or, or_false, false_or, ↓reduceIte, if_true, if_false, eq_self, sh65L, clN, inN, inLS, linS, nI_add, mqS, S101T, S102T, S97T, c3, c3', nI_1, not_true_eq_false, not_false_eq_true, and_true, true_and, and_false, false_and, and_self, or_true, true_or, or_false, false_or, ↓reduceIte, if_true, if_false, eq_self]
          refine t97x (t := t) hj6 (by omega) (fun L' hL' hLo => ?_)
          rw [(mqS m _ _ _ _).2.2.2.2.2.2.2] at hL'
          rw [(mqS m _ _ _ _).2.2.2.1] at hLo
          rw [qhd_si] at hL'
          rw [mq_80]
          simp (disch := omega) only [wp_iinc, wpE0, wpE1, wpE2, wpE3, wpE4, wpE5, wpJ, okS, lt4S, popR, litS, Int32.reduceLT, Int32.reduceLE, List.getElem?_cons_zero, List.getElem?_cons_succ, Bool.false_eq_true, ↓reduceIte, Nat.reduceMod, Nat.reduceDiv, Nat.reduceAdd, Nat.reduceSub, Nat.reduceMul, Nat.reduceLeDiff, Nat.reduceEqDiff, Nat.reduceBEq, Int.reduceToNat, Int.reduceAdd, Int32.reduceOfInt, Int64.reduceOfInt, Int32.reduceToNatClampNeg, Int32.reduceOfNat, Bool.or_self, Bool.or_false, Bool.false_or, Bool.true_or, Bool.or_true, true_and, and_true, false_and, and_false, List.set_cons_zero, List.set_cons_succ, List.take_succ_cons, List.take_zero, List.drop_succ_cons, List.drop_zero, List.reverse_cons, List.reverse_nil, List.nil_append, List.cons_append, List.length_cons, List.length_nil, Option.toList_some, Option.toList_none, not_true_eq_false, not_false_eq_true, forall_const, true_implies, false_implies, nrw, TTS, shO, sh7L, and01, bI_0, bI_and, isCl, isRl, cmpS, toLS, toL_le, toL_lt, i2lS, inM, Int64.reduceLE, Int64.reduceLT, xa_1, xa_2, xa_xa, upd_at, updU, Nat.reduceEqDiff, ↓reduceIte, not_true_eq_false, not_false_eq_true, and_true, true_and, and_false, false_and, and_self, or_true, true_or, or_false, false_or, ↓reduceIte, if_true, if_false, eq_self, sh65L, clN, inN, inLS, linS, nI_add, mqS, S101T, S102T, S97T, nI_1, not_true_eq_false, not_false_eq_true, and_true, true_and, and_false, false_and, and_self, or_true, true_or, or_false, false_or, ↓reduceIte, if_true, if_false, eq_self]
          refine ⟨30 - (t + 1), by omega, ?_⟩
          rw [← hI]
          refine ⟨t + 1, _, L', fw, pl, _, _, rfl, rfl, rfl, by omega, by omega, hfr2, qhd_o hL0 (by omega) hLo, Or.inl ⟨rfl, rfl, by omega, hY, Or.inl (by omega), fun _ => hno', fun z1 z2 => ?_, fun z1 z2 => ?_⟩⟩
          · by_cases e1 : t = 1
            · rw [e1] at hL'; exact hL'
            · exact qhd_o (r5 (by omega) z2) (fun z => e1 z.symm) hLo
          · have e1 : t = 2 := by omega
            rw [e1] at hL'; exact hL'
        · have c3 : 3 ≤ nI t := nI_le (a := 3) (by omega) (by omega)
          have c3' : ¬ nI t < 3 := Int32.not_lt.mpr c3
          have next : I (30 - (t + 1)) [.ref 64, .int (nI j), .int (nI r), .int (nI fr), .int (nI (t + 1)), .int ((qsi (qrn k X0 (nI j) h1 h2 r (t - 1)) d).1 j), .int ((qsi (qrn k X0 (nI j) h1 h2 r (t - 1)) d).2.2.1 j)] (mq m (qsi (qrn k X0 (nI j) h1 h2 r t) dd) L fw pl) := by
            rw [← hI]
            exact ⟨t + 1, _, L, fw, pl, _, _, rfl, rfl, rfl, by omega, by omega, hfr2, hL0, Or.inl ⟨rfl, rfl, by omega, hY, Or.inl (by omega), fun _ => hno', fun z1 z2 => r5 (by omega) z2, fun z1 z2 => r6 (by omega) z2⟩⟩
          by_cases y1 : (qsi (qrn k X0 (nI j) h1 h2 r t) dd).1 j = (qsi (qrn k X0 (nI j) h1 h2 r (t - 1)) d).1 j
          · by_cases y2 : (qsi (qrn k X0 (nI j) h1 h2 r t) dd).2.2.1 j = (qsi (qrn k X0 (nI j) h1 h2 r (t - 1)) d).2.2.1 j
            · have hT : (qtk k X0 (nI j) h1 h2 r) = 21 := by
                have z1 : xHo (qrn k X0 (nI j) h1 h2 r (t - 1 + 1)) (ix (nI j)) = xHo (qrn k X0 (nI j) h1 h2 r (t - 1)) (ix (nI j)) := by rw [show t - 1 + 1 = t by omega, hjj]; exact y1
                have z2 : xWa (qrn k X0 (nI j) h1 h2 r (t - 1 + 1)) (ix (nI j)) = xWa (qrn k X0 (nI j) h1 h2 r (t - 1)) (ix (nI j)) := by rw [show t - 1 + 1 = t by omega, hjj]; exact y2
                exact qtk_stop hvk hvx hbb hh hr (t := t - 1) (by omega) (fun s hs => by rw [hjj]; exact r4' s (by omega)) z1 z2
              simp (disch := omega) only [wp_iinc, wpE0, wpE1, wpE2, wpE3, wpE4, wpE5, wpJ, okS, lt4S, popR, litS, Int32.reduceLT, Int32.reduceLE, List.getElem?_cons_zero, List.getElem?_cons_succ, Bool.false_eq_true, ↓reduceIte, Nat.reduceMod, Nat.reduceDiv, Nat.reduceAdd, Nat.reduceSub, Nat.reduceMul, Nat.reduceLeDiff, Nat.reduceEqDiff, Nat.reduceBEq, Int.reduceToNat, Int.reduceAdd, Int32.reduceOfInt, Int64.reduceOfInt, Int32.reduceToNatClampNeg, Int32.reduceOfNat, Bool.or_self, Bool.or_false, Bool.false_or, Bool.true_or, Bool.or_true, true_and, and_true, false_and, and_false, List.set_cons_zero, List.set_cons_succ, List.take_succ_cons, List.take_zero, List.drop_succ_cons, List.drop_zero, List.reverse_cons, List.reverse_nil, List.nil_append, List.cons_append, List.length_cons, List.length_nil, Option.toList_some, Option.toList_none, not_true_eq_false, not_false_eq_true, forall_const, true_implies, false_implies, nrw, TTS, shO, sh7L, and01, bI_0, bI_and, isCl, isRl, cmpS, toLS, toL_le, toL_lt, i2lS, inM, Int64.reduceLE, Int64.reduceLT, xa_1, xa_2, xa_xa, upd_at, updU, Nat.reduceEqDiff, ↓reduceIte, not_true_eq_false, not_false_eq_true, and_true, true_and, and_false, false_and, and_self, or_true, true_or, or_false, false_or, ↓reduceIte, if_true, if_false, eq_self, sh65L, clN, inN, inLS, linS, nI_add, mqS, S101T, S102T, S97T, c3, c3', y1, y2, nI_1, not_true_eq_false, not_false_eq_true, and_true, true_and, and_false, false_and, and_self, or_true, true_or, or_false, false_or, ↓reduceIte, if_true, if_false, eq_self]
              exact hq _ _ _ _ (Or.inr ⟨by omega, rfl, rfl⟩) hfr2 hL0 (fun z => r5 (by omega) z) (fun z => r6 (by omega) z)
            · simp (disch := omega) only [wp_iinc, wpE0, wpE1, wpE2, wpE3, wpE4, wpE5, wpJ, okS, lt4S, popR, litS, Int32.reduceLT, Int32.reduceLE, List.getElem?_cons_zero, List.getElem?_cons_succ, Bool.false_eq_true, ↓reduceIte, Nat.reduceMod, Nat.reduceDiv, Nat.reduceAdd, Nat.reduceSub, Nat.reduceMul, Nat.reduceLeDiff, Nat.reduceEqDiff, Nat.reduceBEq, Int.reduceToNat, Int.reduceAdd, Int32.reduceOfInt, Int64.reduceOfInt, Int32.reduceToNatClampNeg, Int32.reduceOfNat, Bool.or_self, Bool.or_false, Bool.false_or, Bool.true_or, Bool.or_true, true_and, and_true, false_and, and_false, List.set_cons_zero, List.set_cons_succ, List.take_succ_cons, List.take_zero, List.drop_succ_cons, List.drop_zero, List.reverse_cons, List.reverse_nil, List.nil_append, List.cons_append, List.length_cons, List.length_nil, Option.toList_some, Option.toList_none, not_true_eq_false, not_false_eq_true, forall_const, true_implies, false_implies, nrw, TTS, shO, sh7L, and01, bI_0, bI_and, isCl, isRl, cmpS, toLS, toL_le, toL_lt, i2lS, inM, Int64.reduceLE, Int64.reduceLT, xa_1, xa_2, xa_xa, upd_at, updU, Nat.reduceEqDiff, ↓reduceIte, not_true_eq_false, not_false_eq_true, and_true, true_and, and_false, false_and, and_self, or_true, true_or, or_false, false_or, ↓reduceIte, if_true, if_false, eq_self, sh65L, clN, inN, inLS, linS, nI_add, mqS, S101T, S102T, S97T, c3, c3', y1, y2, nI_1, not_true_eq_false, not_false_eq_true, and_true, true_and, and_false, false_and, and_self, or_true, true_or, or_false, false_or, ↓reduceIte, if_true, if_false, eq_self]
              exact ⟨_, by omega, next⟩
          · simp (disch := omega) only [wp_iinc, wpE0, wpE1, wpE2, wpE3, wpE4, wpE5, wpJ, okS, lt4S, popR, litS, Int32.reduceLT, Int32.reduceLE, List.getElem?_cons_zero, List.getElem?_cons_succ, Bool.false_eq_true, ↓reduceIte, Nat.reduceMod, Nat.reduceDiv, Nat.reduceAdd, Nat.reduceSub, Nat.reduceMul, Nat.reduceLeDiff, Nat.reduceEqDiff, Nat.reduceBEq, Int.reduceToNat, Int.reduceAdd, Int32.reduceOfInt, Int64.reduceOfInt, Int32.reduceToNatClampNeg, Int32.reduceOfNat, Bool.or_self, Bool.or_false, Bool.false_or, Bool.true_or, Bool.or_true, true_and, and_true, false_and, and_false, List.set_cons_zero, List.set_cons_succ, List.take_succ_cons, List.take_zero, List.drop_succ_cons, List.drop_zero, List.reverse_cons, List.reverse_nil, List.nil_append, List.cons_append, List.length_cons, List.length_nil, Option.toList_some, Option.toList_none, not_true_eq_false, not_false_eq_true, forall_const, true_implies, false_implies, nrw, TTS, shO, sh7L, and01, bI_0, bI_and, isCl, isRl, cmpS, toLS, toL_le, toL_lt, i2lS, inM, Int64.reduceLE, Int64.reduceLT, xa_1, xa_2, xa_xa, upd_at, updU, Nat.reduceEqDiff, ↓reduceIte, not_true_eq_false, not_false_eq_true, and_true, true_and, and_false, false_and, and_self, or_true, true_or, or_false, false_or, ↓reduceIte, if_true, if_false, eq_self, sh65L, clN, inN, inLS, linS, nI_add, mqS, S101T, S102T, S97T, c3, c3', y1, nI_1, not_true_eq_false, not_false_eq_true, and_true, true_and, and_false, false_and, and_self, or_true, true_or, or_false, false_or, ↓reduceIte, if_true, if_false, eq_self]
            exact ⟨_, by omega, next⟩
    · have c1 : nI fw ≤ nI t := nI_le (by omega) (by omega)
      have c1' : ¬ nI t < nI fw := Int32.not_lt.mpr c1
      have hT : fw ≤ (qtk k X0 (nI j) h1 h2 r) := by
        by_cases e : fr < fw
        · have := r4 e
          have et : t = fw := by omega
          exact qtk_ge (by omega) (fun s hs => by rw [hjj]; exact this s (by omega))
        · omega
      refine vc_wp (T := TT [(101, S101T G), (102, S102T G), (97, S97T G), (100, S100T G)]) (TTc (fun as m Q h => h) (TTc (fun as m Q h => h) (TTc (fun as m Q h => h) (TTc (fun as m Q h => h) TTn)))) (fun _ => false) (rt0 := none) rfl (ckl_drop 20 c99) rfl ?_
      simp (disch := omega) only [List.drop, i99, wp_iinc, wpE0, wpE1, wpE2, wpE3, wpE4, wpE5, wpJ, okS, lt4S, popR, litS, Int32.reduceLT, Int32.reduceLE, List.getElem?_cons_zero, List.getElem?_cons_succ, Bool.false_eq_true, ↓reduceIte, Nat.reduceMod, Nat.reduceDiv, Nat.reduceAdd, Nat.reduceSub, Nat.reduceMul, Nat.reduceLeDiff, Nat.reduceEqDiff, Nat.reduceBEq, Int.reduceToNat, Int.reduceAdd, Int32.reduceOfInt, Int64.reduceOfInt, Int32.reduceToNatClampNeg, Int32.reduceOfNat, Bool.or_self, Bool.or_false, Bool.false_or, Bool.true_or, Bool.or_true, true_and, and_true, false_and, and_false, List.set_cons_zero, List.set_cons_succ, List.take_succ_cons, List.take_zero, List.drop_succ_cons, List.drop_zero, List.reverse_cons, List.reverse_nil, List.nil_append, List.cons_append, List.length_cons, List.length_nil, Option.toList_some, Option.toList_none, not_true_eq_false, not_false_eq_true, forall_const, true_implies, false_implies, nrw, TTS, shO, sh7L, and01, bI_0, bI_and, isCl, isRl, cmpS, toLS, toL_le, toL_lt, i2lS, inM, Int64.reduceLE, Int64.reduceLT, xa_1, xa_2, xa_xa, upd_at, updU, Nat.reduceEqDiff, ↓reduceIte, not_true_eq_false, not_false_eq_true, and_true, true_and, and_false, false_and, and_self, or_true, true_or, or_false, false_or, ↓reduceIte, if_true, if_false, eq_self, sh65L, clN, inN, inLS, linS, nI_add, mqS, S101T, S102T, S97T, c1, c1', e64, not_true_eq_false, not_false_eq_true, and_true, true_and, and_false, false_and, and_self, or_true, true_or, or_false, false_or, ↓reduceIte, if_true, if_false, eq_self]
      exact hq _ _ _ _ (Or.inr ⟨hT, rfl, rfl⟩) hfY hL0 (fun z => r5 (by omega) z) (fun z => r6 (by omega) z)
  · have c1 : nI (qtk k X0 (nI j) h1 h2 r) ≤ nI ((qtk k X0 (nI j) h1 h2 r) + 1) := nI_le (by omega) (by omega)
    have c1' : ¬ nI ((qtk k X0 (nI j) h1 h2 r) + 1) < nI (qtk k X0 (nI j) h1 h2 r) := Int32.not_lt.mpr c1
    refine vc_wp (T := TT [(101, S101T G), (102, S102T G), (97, S97T G), (100, S100T G)]) (TTc (fun as m Q h => h) (TTc (fun as m Q h => h) (TTc (fun as m Q h => h) (TTc (fun as m Q h => h) TTn)))) (fun _ => false) (rt0 := none) rfl (ckl_drop 20 c99) rfl ?_
    simp (disch := omega) only [List.drop, i99, wp_iinc, wpE0, wpE1, wpE2, wpE3, wpE4, wpE5, wpJ, okS, lt4S, popR, litS, Int32.reduceLT, Int32.reduceLE, List.getElem?_cons_zero, List.getElem?_cons_succ, Bool.false_eq_true, ↓reduceIte, Nat.reduceMod, Nat.reduceDiv, Nat.reduceAdd, Nat.reduceSub, Nat.reduceMul, Nat.reduceLeDiff, Nat.reduceEqDiff, Nat.reduceBEq, Int.reduceToNat, Int.reduceAdd, Int32.reduceOfInt, Int64.reduceOfInt, Int32.reduceToNatClampNeg, Int32.reduceOfNat, Bool.or_self, Bool.or_false, Bool.false_or, Bool.true_or, Bool.or_true, true_and, and_true, false_and, and_false, List.set_cons_zero, List.set_cons_succ, List.take_succ_cons, List.take_zero, List.drop_succ_cons, List.drop_zero, List.reverse_cons, List.reverse_nil, List.nil_append, List.cons_append, List.length_cons, List.length_nil, Option.toList_some, Option.toList_none, not_true_eq_false, not_false_eq_true, forall_const, true_implies, false_implies, nrw, TTS, shO, sh7L, and01, bI_0, bI_and, isCl, isRl, cmpS, toLS, toL_le, toL_lt, i2lS, inM, Int64.reduceLE, Int64.reduceLT, xa_1, xa_2, xa_xa, upd_at, updU, Nat.reduceEqDiff, ↓reduceIte, not_true_eq_false, not_false_eq_true, and_true, true_and, and_false, false_and, and_self, or_true, true_or, or_false, false_or, ↓reduceIte, if_true, if_false, eq_self, sh65L, clN, inN, inLS, linS, nI_add, mqS, S101T, S102T, S97T, c1, c1', e64, not_true_eq_false, not_false_eq_true, and_true, true_and, and_false, false_and, and_self, or_true, true_or, or_false, false_or, ↓reduceIte, if_true, if_false, eq_self]
    exact hq _ _ _ _ (Or.inl ⟨d1, rfl, rfl⟩) hfY hL0 d4 d5


