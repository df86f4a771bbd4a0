/-- counts -/
def cnt (p : Nat → Prop) [DecidablePred p] : Nat → Nat
  | 0 => 0
  | n + 1 => cnt p n + if p n then 1 else 0
theorem cnt_le (p : Nat → Prop) [DecidablePred p] : ∀ n, cnt p n ≤ n
  | 0 => Nat.le_refl 0
  | n + 1 => by
    have := cnt_le p n
    unfold cnt
    split <;> omega
theorem fd_cnt (p : Nat → Prop) [DecidablePred p] : ∀ n, fd (fun h => if p h then 1 else 0) n = nI (cnt p n)
  | 0 => rfl
  | n + 1 => by
    unfold fd cnt
    rw [fd_cnt p n]
    by_cases h : p n
    · rw [if_pos h, if_pos h]; exact nI_add _ 1
    · rw [if_neg h, if_neg h]; exact nI_add _ 0
theorem cnt_0 (p : Nat → Prop) [DecidablePred p] : ∀ n, cnt p n = 0 ↔ ¬ ∃ h, h < n ∧ p h
  | 0 => by simp [cnt]
  | n + 1 => by
    have ih := cnt_0 p n
    unfold cnt
    by_cases hp : p n
    · rw [if_pos hp]
      exact ⟨fun q => by omega, fun q => absurd ⟨n, by omega, hp⟩ q⟩
    · rw [if_neg hp]
      refine ⟨fun q ⟨h, h2, h3⟩ => ?_, fun q => ih.mpr fun ⟨h, h2, h3⟩ => q ⟨h, by omega, h3⟩⟩
      by_cases e : h = n
      · rw [e] at h3; exact hp h3
      · exact ih.mp q ⟨h, by omega, h3⟩
theorem nI_z2 {q : Nat} (h : q < 2 ^ 31) : nI q ≤ 0 ↔ nI q = 0 := by
  have e1 := nI_leI (a := q) (b := 0) h (by omega)
  have e2 := nI_eq (a := q) (b := 0) h (by omega)
  rw [show (0 : Int32) = nI 0 from rfl, e1, e2]
  omega
theorem nI_z {q : Nat} (h : q < 2 ^ 31) : nI q = 0 ↔ q = 0 := by
  have e2 := nI_eq (a := q) (b := 0) h (by omega)
  rw [show (0 : Int32) = nI 0 from rfl, e2]
theorem able_cnt (k : KK) (X : X6) (b p : Int32) : aAble k X b p = nI (cnt (fun h => kBo k h = b ∧ xSp X h = p ∧ ¬ xGr X h ≤ 0) (ix (kNh k))) := fd_cnt _ _
theorem able_le {k : KK} {X : X6} {b p : Int32} (hn : kNh k ≤ 12) : aAble k X b p ≤ 0 ↔ aAble k X b p = 0 := by
  rw [able_cnt]
  have h1 := cnt_le (fun h => kBo k h = b ∧ xSp X h = p ∧ ¬ xGr X h ≤ 0) (ix (kNh k))
  have h2 : ix (kNh k) ≤ 12 := ix_max (k := 12) hn (by decide)
  generalize cnt (fun h => kBo k h = b ∧ xSp X h = p ∧ ¬ xGr X h ≤ 0) (ix (kNh k)) = zq at h1
  exact nI_z2 (by omega)
theorem fl_able {k : KK} {X : X6} {K f : Nat → Int32} (hk : EK k K) (hx : E6 (ix (K 4)) X f) (hn : K 4 ≤ 12) (b p : Int32) : fd (fun h => if K (29 + 3 * h + 0) = b ∧ f (24 + 2 * h) = p ∧ ¬ f (24 + 2 * h + 1) ≤ 0 then 1 else 0) (ix (K 4)) = aAble k X b p := by
  unfold aAble
  rw [hk.1.2.2.2.2]
  have h2 : ix (K 4) ≤ 12 := ix_max (k := 12) hn (by decide)
  exact fd_c fun i hi => by simp only [(hk.2.2 i (by omega)).1, (hx.2 i (by omega)).1, (hx.2 i (by omega)).2]
theorem fl_in {k : KK} {X : X6} {K f : Nat → Int32} (hk : EK k K) (hx : E6 (ix (K 4)) X f) (hn : K 4 ≤ 12) (b : Int32) : fd (fun h => if K (29 + 3 * h + 0) = b ∧ f (24 + 2 * h) = 0 then K (29 + 3 * h + 1) else 0) (ix (K 4)) = aIn k X b := by
  unfold aIn
  rw [hk.1.2.2.2.2]
  have h2 : ix (K 4) ≤ 12 := ix_max (k := 12) hn (by decide)
  exact fd_c fun i hi => by simp only [(hk.2.2 i (by omega)).1, (hk.2.2 i (by omega)).2.1, (hx.2 i (by omega)).1]
theorem fl_lever {k : KK} {X : X6} {K f : Nat → Int32} (hk : EK k K) (hx : E6 (ix (K 4)) X f) (hn : K 4 ≤ 12) {b : Int32} (hbb : ix b < ix (K 3)) : fd (fun h => if K (29 + 3 * h + 0) = b ∧ f (24 + 2 * h) = 2 ∧ ¬ f (24 + 2 * h + 1) ≤ 0 then K (29 + 3 * h + 1) else 0) (ix (K 4)) * K (5 + 4 * ix b + 0) / 10 = aLever k X b := by
  unfold aLever aBoard
  rw [hk.1.2.2.2.2, (hk.2.1 (ix b) hbb).1]
  have h2 : ix (K 4) ≤ 12 := ix_max (k := 12) hn (by decide)
  have e : fd (fun h => if kBo k h = b ∧ xSp X h = 2 ∧ ¬ xGr X h ≤ 0 then kWe k h else 0) (ix (K 4)) = fd (fun h => if K (29 + 3 * h + 0) = b ∧ f (24 + 2 * h) = 2 ∧ ¬ f (24 + 2 * h + 1) ≤ 0 then K (29 + 3 * h + 1) else 0) (ix (K 4)) := fd_c fun i hi => by simp only [(hk.2.2 i (by omega)).1, (hk.2.2 i (by omega)).2.1, (hx.2 i (by omega)).1, (hx.2 i (by omega)).2]
  rw [e]
theorem fl_bow {k : KK} {X : X6} {K f : Nat → Int32} (hk : EK k K) (hx : E6 (ix (K 4)) X f) (hn : K 4 ≤ 12) (b : Int32) : (anB (fun h => decide (K (29 + 3 * h + 0) = b ∧ f (24 + 2 * h) = 3 ∧ ¬ f (24 + 2 * h + 1) ≤ 0)) (ix (K 4)) = 0) = (aAble k X b 3 = 0) := by
  rw [← fl_able hk hx hn, fd_cnt]
  have h2 : ix (K 4) ≤ 12 := ix_max (k := 12) hn (by decide)
  have h1 := cnt_le (fun h => K (29 + 3 * h + 0) = b ∧ f (24 + 2 * h) = 3 ∧ ¬ f (24 + 2 * h + 1) ≤ 0) (ix (K 4))
  have h3 := cnt_0 (fun h => K (29 + 3 * h + 0) = b ∧ f (24 + 2 * h) = 3 ∧ ¬ f (24 + 2 * h + 1) ≤ 0) (ix (K 4))
  apply propext
  rw [anB_ex, nI_z (by omega), h3]
  simp only [decide_eq_true_eq]
theorem fl_need {k : KK} {X : X6} {K f : Nat → Int32} (hk : EK k K) (hx : E6 (ix (K 4)) X f) (hn : K 4 ≤ 12) {b : Int32} (hb : vp_in b 6) (hbb : ix b < ix (K 3)) {z : Int32} (hz : (z = 0) = (aAble k X b 3 = 0)) : 10 * K (5 + 4 * ix b + 1) + f (4 * ix b + 1) + (if z = 0 then 2 * K 1 else 0) = aNeed k X b := by
  have hn2 : kNh k ≤ 12 := by rw [hk.1.2.2.2.2]; exact hn
  unfold aNeed
  rw [(hk.2.1 (ix b) hbb).2.1, (hx.1 (ix b) (xin_lt hb).2).2.1, hk.1.2.1]
  by_cases e : z = 0
  · rw [if_pos e, if_pos (able_le hn2 |>.mpr (hz ▸ e))]
  · rw [if_neg e, if_neg (fun q => e (hz ▸ (able_le hn2 |>.mp q)))]
theorem e_send {k : KK} {X : X6} {K f f0 : Nat → Int32} (hk : EK k K) (hx : E6 (ix (K 4)) X f) (hn : K 4 ≤ 12) (b u t : Int32) (hf : ∀ h, h < 12 → f (24 + 2 * h) = f0 (24 + 2 * h)) : E6 (ix (K 4)) (aSend k X b u t) (sm2 f (fun h => if K (29 + 3 * h + 0) = b ∧ f0 (24 + 2 * h) = u then t else f0 (24 + 2 * h)) 0 (ix (K 4))) := by
  have h2 : ix (K 4) ≤ 12 := ix_max (k := 12) hn (by decide)
  unfold aSend
  rw [hk.1.2.2.2.2]
  exact e_sp hx h2 fun i hi => by simp only [(hk.2.2 i (by omega)).1, (hx.2 i (by omega)).1, hf i (by omega)]

def S178b (k : KK) (X : X6) (as : List Value) (m : xM) (Q : xQt) : Prop := match as with
  | [.ref o, .ref r, .int b] => (o = 86) ∧ (isR r) ∧ (m.1 90 4 ≤ 12) ∧ (vp_in b 6) ∧ (EK k (m.1 90)) ∧ (E6 (ix (m.1 90 4)) X (m.1 r)) ∧ ∀ F, E6 (ix (m.1 90 4)) (aCap k X b) F → F 48 = m.1 r 48 → Q none (xa m r F)
  | _ => False
theorem s178b (k : KK) (X : X6) (o : Nat) (r : Nat) (b : Int32) (m : xM) (Q : xQt) : S178b k X [.ref o, .ref r, .int b] m Q = ((o = 86) ∧ (isR r) ∧ (m.1 90 4 ≤ 12) ∧ (vp_in b 6) ∧ (EK k (m.1 90)) ∧ (E6 (ix (m.1 90 4)) X (m.1 r)) ∧ ∀ F, E6 (ix (m.1 90 4)) (aCap k X b) F → F 48 = m.1 r 48 → Q none (xa m r F)) := rfl
theorem t178b {G : xG} (k : KK) (X : X6) : ∀ as m Q, S178b k X as m Q → Tri G 178 as m Q := by
  intro as m Q h
  match as, h with
  | [.ref o, .ref r, .int b], h =>
    obtain ⟨rfl, hr, hn, hb, hk, hx, h⟩ := h
    obtain ⟨j, hj, rfl⟩ := vp_in_of hb (by decide)
    have hbj : ix (nI j) = j := clN (by omega)
    refine tri_wp (T := TT [(179, S179)]) (ls := [.ref 86, .ref r, .int (nI j)]) (TTc (t179) TTn) c178 (by decide +kernel) (rt0 := none) rfl rfl (Nat.le_of_ble_eq_true rfl) rfl ?_
    simp (disch := omega) only [i178, wp_iinc, wpE0, wpE1, wpE2, wpE3, wpE4, wpE5, wpJ, okS, lt4S, popR, litS, Int32.reduceLT, Int32.reduceLE, List.getElem?_cons_zero, List.getElem?_cons_succ, Bool.false_eq_true, ↓reduceIte, Nat.reduceMod, Nat.reduceDiv, Nat.reduceAdd, Nat.reduceSub, Nat.reduceMul, Nat.reduceLeDiff, Nat.reduceEqDiff, Nat.reduceBEq, Int.reduceToNat, Int.reduceAdd, Int32.reduceOfInt, Int64.reduceOfInt, Int32.reduceToNatClampNeg, Int32.reduceOfNat, Bool.or_self, Bool.or_false, Bool.false_or, Bool.true_or, Bool.or_true, true_and, and_true, false_and, and_false, List.set_cons_zero, List.set_cons_succ, List.take_succ_cons, List.take_zero, List.drop_succ_cons, List.drop_zero, List.reverse_cons, List.reverse_nil, List.nil_append, List.cons_append, List.length_cons, List.length_nil, Option.toList_some, Option.toList_none, not_true_eq_false, not_false_eq_true, forall_const, true_implies, false_implies, nrw, TTS, s179, shM, isRl, and01, bI_0, linS, nI_add, clN, inN, inLS, xa_1, xa_2, xa_xa, neR hr, upd_ne, shR hr, hr, hn, hb, hk, hx]
    have zn : ix (m.1 90 4) ≤ 12 := ix_max (k := 12) hn (by decide)
    refine h _ ?_ ?_
    · unfold aCap
      have e : ix (nI j) = j := clN (by omega)
      have hsi : X.2.2.2.1 j = m.1 r (4 * j + 3) := (hx.1 j hj).2.2.2
      rw [e, hsi]
      exact e_send hk (e_si (e_wa (e_ma (e_ho hx hj) hj) hj) hj) hn (nI j) 0 1 (fun h hh => by simp (disch := omega) only [upd_ne])
    · simp (disch := omega) only [sm2_hi, upd_ne]

theorem e_chill {k : KK} {X : X6} {K f : Nat → Int32} (hk : EK k K) (hx : E6 (ix (K 4)) X f) (hn : K 4 ≤ 12) {b : Int32} (hb : vp_in b 6) (hL : ∀ h, h < ix (K 4) → 1 ≤ 6 * K (29 + 3 * h + 2)) (hg : ∀ h, h < 12 → ∀ z : Int32, (0 < xGr X h - z) = (0 ≤ xGr X h - z ∧ ¬ xGr X h - z = 0)) : E6 (ix (K 4)) (aChill k X b) (sm2 f (fun h => if K (29 + 3 * h + 0) = b ∧ (¬ f (24 + 2 * h) = 0 ∨ f (4 * ix b + 0) = 4) then (if 0 ≤ f (24 + 2 * h + 1) - (if 10 ≤ K 0 then 1000 / (6 * K (29 + 3 * h + 2)) else 1000 / (6 * K (29 + 3 * h + 2)) + 1000 / (6 * K (29 + 3 * h + 2)) / 2) then f (24 + 2 * h + 1) - (if 10 ≤ K 0 then 1000 / (6 * K (29 + 3 * h + 2)) else 1000 / (6 * K (29 + 3 * h + 2)) + 1000 / (6 * K (29 + 3 * h + 2)) / 2) else 0) else f (24 + 2 * h + 1)) 1 (ix (K 4))) := by
  have h2 : ix (K 4) ≤ 12 := ix_max (k := 12) hn (by decide)
  unfold aChill
  rw [hk.1.2.2.2.2]
  refine e_gr hx h2 fun i hi => ?_
  have hbi := (xin_lt hb).2
  have hc : aCold k i = (if 10 ≤ K 0 then 1000 / (6 * K (29 + 3 * i + 2)) else 1000 / (6 * K (29 + 3 * i + 2)) + 1000 / (6 * K (29 + 3 * i + 2)) / 2) := by
    unfold aCold
    rw [(hk.2.2 i (by omega)).2.2, hk.1.1, if_pos (hL i hi)]
  rw [hc, (hk.2.2 i (by omega)).1, (hx.2 i (by omega)).1, (hx.1 (ix b) hbi).1]
  have hg1 := hg i (by omega) (if 10 ≤ K 0 then 1000 / (6 * K (29 + 3 * i + 2)) else 1000 / (6 * K (29 + 3 * i + 2)) + 1000 / (6 * K (29 + 3 * i + 2)) / 2)
  rw [(hx.2 i (by omega)).2] at hg1 ⊢
  by_cases zc : K (29 + 3 * i + 0) = b ∧ (¬ f (24 + 2 * i) = 0 ∨ f (4 * ix b + 0) = 4)
  · rw [if_pos zc, if_pos zc]
    simp only [hg1]
    by_cases z1 : 0 ≤ f (24 + 2 * i + 1) - (if 10 ≤ K 0 then 1000 / (6 * K (29 + 3 * i + 2)) else 1000 / (6 * K (29 + 3 * i + 2)) + 1000 / (6 * K (29 + 3 * i + 2)) / 2)
    · by_cases z2 : f (24 + 2 * i + 1) - (if 10 ≤ K 0 then 1000 / (6 * K (29 + 3 * i + 2)) else 1000 / (6 * K (29 + 3 * i + 2)) + 1000 / (6 * K (29 + 3 * i + 2)) / 2) = 0
      · rw [if_neg (fun q => q.2 z2), if_pos z1, z2]
      · rw [if_pos ⟨z1, z2⟩, if_pos z1]
    · rw [if_neg (fun q => z1 q.1), if_neg z1]
  · rw [if_neg zc, if_neg zc]
theorem pos_iff (z : Int32) : (0 < z) = (0 ≤ z ∧ ¬ z = 0) := by
  apply propext
  rw [Int32.lt_iff_toInt_lt, Int32.le_iff_toInt_le, ← Int32.toInt_inj]
  have : (0 : Int32).toInt = 0 := by decide
  omega
