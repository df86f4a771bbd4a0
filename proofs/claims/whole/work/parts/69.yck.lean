def S52T (G : xG) (as : List Value) (m : xM) (Q : xQt) : Prop := Tri G 52 as m Q
theorem REL_read {m M : xM} (hR : REL m) (h : ∀ q, q ≠ 0 → q ≠ 5 → q ≠ 86 → ¬ (7 ≤ q ∧ q ≤ 34) → q ≠ 90 → q ≠ 91 → q ≠ 92 → M.1 q = m.1 q) (h5 : M.1 5 1 = 0) (h10 : M.1 86 10 = 0) (hc : RC (kk M 7) (g6 M 7) (M.1 7 3) (M.1 90) (M.1 92)) (hth : (M.1 86 7 = 0) = (M.1 7 4 = 0)) (hf : M.1 0 10 = M.1 86 11) (hs : M.1 0 11 = M.1 86 1) (h31 : M.1 86 31 = m.1 86 31) (hkt : (¬ m.1 97 0 = 0 → ¬ M.1 86 7 = 0) ∧ (¬ m.1 97 1 = 0 → ¬ M.1 86 7 = 0)) : REL M := by
  have e2 := h 2 (by omega) (by omega) (by omega) (by omega) (by omega) (by omega) (by omega)
  have e3 := h 3 (by omega) (by omega) (by omega) (by omega) (by omega) (by omega) (by omega)
  have e4 := h 4 (by omega) (by omega) (by omega) (by omega) (by omega) (by omega) (by omega)
  have e35 := h 35 (by omega) (by omega) (by omega) (by omega) (by omega) (by omega) (by omega)
  have e36 := h 36 (by omega) (by omega) (by omega) (by omega) (by omega) (by omega) (by omega)
  have e37 := h 37 (by omega) (by omega) (by omega) (by omega) (by omega) (by omega) (by omega)
  have e38 := h 38 (by omega) (by omega) (by omega) (by omega) (by omega) (by omega) (by omega)
  have e39 := h 39 (by omega) (by omega) (by omega) (by omega) (by omega) (by omega) (by omega)
  have e40 := h 40 (by omega) (by omega) (by omega) (by omega) (by omega) (by omega) (by omega)
  have e41 := h 41 (by omega) (by omega) (by omega) (by omega) (by omega) (by omega) (by omega)
  have e42 := h 42 (by omega) (by omega) (by omega) (by omega) (by omega) (by omega) (by omega)
  have e43 := h 43 (by omega) (by omega) (by omega) (by omega) (by omega) (by omega) (by omega)
  have e44 := h 44 (by omega) (by omega) (by omega) (by omega) (by omega) (by omega) (by omega)
  have e45 := h 45 (by omega) (by omega) (by omega) (by omega) (by omega) (by omega) (by omega)
  have e46 := h 46 (by omega) (by omega) (by omega) (by omega) (by omega) (by omega) (by omega)
  have e47 := h 47 (by omega) (by omega) (by omega) (by omega) (by omega) (by omega) (by omega)
  have e48 := h 48 (by omega) (by omega) (by omega) (by omega) (by omega) (by omega) (by omega)
  have e49 := h 49 (by omega) (by omega) (by omega) (by omega) (by omega) (by omega) (by omega)
  have e50 := h 50 (by omega) (by omega) (by omega) (by omega) (by omega) (by omega) (by omega)
  have e51 := h 51 (by omega) (by omega) (by omega) (by omega) (by omega) (by omega) (by omega)
  have e52 := h 52 (by omega) (by omega) (by omega) (by omega) (by omega) (by omega) (by omega)
  have e53 := h 53 (by omega) (by omega) (by omega) (by omega) (by omega) (by omega) (by omega)
  have e54 := h 54 (by omega) (by omega) (by omega) (by omega) (by omega) (by omega) (by omega)
  have e55 := h 55 (by omega) (by omega) (by omega) (by omega) (by omega) (by omega) (by omega)
  have e56 := h 56 (by omega) (by omega) (by omega) (by omega) (by omega) (by omega) (by omega)
  have e57 := h 57 (by omega) (by omega) (by omega) (by omega) (by omega) (by omega) (by omega)
  have e58 := h 58 (by omega) (by omega) (by omega) (by omega) (by omega) (by omega) (by omega)
  have e59 := h 59 (by omega) (by omega) (by omega) (by omega) (by omega) (by omega) (by omega)
  have e60 := h 60 (by omega) (by omega) (by omega) (by omega) (by omega) (by omega) (by omega)
  have e61 := h 61 (by omega) (by omega) (by omega) (by omega) (by omega) (by omega) (by omega)
  have e62 := h 62 (by omega) (by omega) (by omega) (by omega) (by omega) (by omega) (by omega)
  have e84 := h 84 (by omega) (by omega) (by omega) (by omega) (by omega) (by omega) (by omega)
  have e85 := h 85 (by omega) (by omega) (by omega) (by omega) (by omega) (by omega) (by omega)
  have e87 := h 87 (by omega) (by omega) (by omega) (by omega) (by omega) (by omega) (by omega)
  have e88 := h 88 (by omega) (by omega) (by omega) (by omega) (by omega) (by omega) (by omega)
  have e89 := h 89 (by omega) (by omega) (by omega) (by omega) (by omega) (by omega) (by omega)
  have e97 := h 97 (by omega) (by omega) (by omega) (by omega) (by omega) (by omega) (by omega)
  have e98 := h 98 (by omega) (by omega) (by omega) (by omega) (by omega) (by omega) (by omega)
  have e99 := h 99 (by omega) (by omega) (by omega) (by omega) (by omega) (by omega) (by omega)
  have e100 := h 80 (by omega) (by omega) (by omega) (by omega) (by omega) (by omega) (by omega)
  have e79 := h 79 (by omega) (by omega) (by omega) (by omega) (by omega) (by omega) (by omega)
  have i0 := hR.im0
  have i1 := hR.im1
  simp only [kk, g6, Nat.reduceAdd] at i0 i1
  refine REL.mk ?_ ?_ hc hth ?_ ?_ ?_ ?_ hf hs ?_ ?_ ?_
  · rw [e2, e3, e4, e87, e88, e89]; exact hR.rows
  · rw [h5, h10]; exact ⟨rfl, ⟨by decide, by decide⟩, fun i hi => absurd hi (Nat.not_lt_zero i)⟩
  · simp only [kk, g6, Nat.reduceAdd, e35, e36, e37, e38, e39, e40, e41, e42, e43, e44, e45, e46, e47, e48, e98, e99]; exact i0
  · simp only [kk, g6, Nat.reduceAdd, e49, e50, e51, e52, e53, e54, e55, e56, e57, e58, e59, e60, e61, e62, e98, e99]; exact i1
  · rw [e97, e35]; exact hR.kept0
  · rw [e97, e49]; exact hR.kept1
  · rw [e84, e85, h31, e100]; exact hR.trace
  · rw [e79]; exact hR.still
  · rw [e97]; exact hkt

theorem ch_k : ∀ n, n < 256 → ((nI n - 128) &&& 255 = nI (ix ((nI n - 128) &&& 255)) ∧ ix ((nI n - 128) &&& 255) < 256 ∧ (((nI n - 128) = nI (ix ((nI n - 128) &&& 255)) ∧ ix ((nI n - 128) &&& 255) < 128) ∨ ((nI n - 128) < 0 ∧ 128 ≤ ix ((nI n - 128) &&& 255)))) := by decide +kernel
theorem ch_l {x : Int32} (h : bt x (-128) 127) : (x &&& 255 = nI (ix (x &&& 255)) ∧ ix (x &&& 255) < 256 ∧ ((x = nI (ix (x &&& 255)) ∧ ix (x &&& 255) < 128) ∨ (x < 0 ∧ 128 ≤ ix (x &&& 255)))) := by
  obtain ⟨h1, h2⟩ := h
  have e : x = nI (x.toInt + 128).toNat - 128 := by
    rw [← Int32.toInt_inj, show (128 : Int32) = nI 128 from rfl, pk_sub_toInt (by omega) (by omega)]
    omega
  have := ch_k (x.toInt + 128).toNat (by omega)
  rw [← e] at this
  exact this
def tpR (m : xM) : Tp := (fun i => ix (m.1 93 i), ix (m.1 5 1))
theorem tp_R {m : xM} (hR : REL m) : tpC (tpR m) m ∧ tpM (tpR m) m ∧ m.1 86 10 = nI (tpR m).2 := by
  obtain ⟨t1, t2, t3⟩ := hR.tape
  obtain ⟨n4, en⟩ := ix_b (n := 400) (by decide) t2
  refine ⟨⟨en, n4, fun i hi => ?_⟩, ⟨n4, fun i hi => ?_⟩, t1.symm.trans en⟩
  · obtain ⟨b, e⟩ := t3 i hi
    show (m.1 6 i = nI (ix (m.1 93 i)) ∧ ix (m.1 93 i) < 128) ∨ (m.1 6 i < 0 ∧ 128 ≤ ix (m.1 93 i))
    rw [e]; exact (ch_l b).2.2
  · obtain ⟨b, e⟩ := t3 i hi
    show m.1 93 i = nI (ix (m.1 93 i)) ∧ ix (m.1 93 i) < 256
    rw [e]; exact ⟨(ch_l b).1, (ch_l b).2.1⟩
def S25T (G : xG) (as : List Value) (m : xM) (Q : xQt) : Prop := Tri G 25 as m Q
theorem RC_new {k : KK} {m2 : xM} {K f : Nat → Int32} (hD : D0 m2) (hkk : kk m2 21 = k) (hV : VKK k) (hk : EK k K) (f1 : ∀ b, b < 24 → f b = 0) (f2 : f 48 = 0) (f3 : ∀ h, h < 12 → f (24 + 2 * h) = 0 ∧ f (24 + 2 * h + 1) = 1000) : RC k (g6 m2 21) 0 K f := by
  obtain ⟨d1, d2, d3, d4⟩ := hD
  have b6 := (ix_b (n := 6) (by decide) hV.1.2.2.2.1).1
  have h12 := (ix_b (n := 12) (by decide) hV.1.2.2.2.2).1
  have e4 : ix (K 4) = ix (kNh k) := by rw [hk.1.2.2.2.2]
  have e5 : ix (m2.1 21 5) = ix (kNh k) := by rw [← hkk]; rfl
  refine ⟨hk, ⟨fun b hb => ?_, fun h hh => ?_⟩, f2, hV, ⟨fun b hb => ?_, fun h hh => ?_⟩⟩
  · obtain ⟨x1, x2, x3, x4⟩ := d2 b hb
    exact ⟨x1.trans (f1 _ (by omega)).symm, x2.trans (f1 _ (by omega)).symm, x3.trans (f1 _ (by omega)).symm, x4.trans (f1 _ (by omega)).symm⟩
  · rw [e4] at hh
    exact ⟨(d3 h (by omega)).trans (f3 h (by omega)).1.symm, (d4 h (by rw [e5]; exact hh)).trans (f3 h (by omega)).2.symm⟩
  · obtain ⟨x1, x2, x3, x4⟩ := d2 b (by omega)
    have y1 : xHo (g6 m2 21) b = 0 := x1
    have y2 : xMa (g6 m2 21) b = 0 := x2
    have y3 : xWa (g6 m2 21) b = 0 := x3
    rw [y1, y2, y3]
    exact ⟨⟨by decide, by decide⟩, ⟨by decide, by decide⟩, ⟨by decide, by decide⟩⟩
  · have y1 : xSp (g6 m2 21) h = 0 := d3 h (by omega)
    have y2 : xGr (g6 m2 21) h = 1000 := d4 h (by rw [e5]; exact hh)
    rw [y1, y2]
    exact ⟨⟨by decide, by decide⟩, ⟨by decide, by decide⟩⟩

theorem p24 {G : xG} {m : xM} (hR : REL m) {Q : xQt} (h : ∀ (rv : Int64) m1, MID G 154 [.ref 86] (.long rv) m1 → Q (some (.long rv)) m1) : Tri G 24 [.ref 0] m Q := by
  obtain ⟨hTC, hTM, h10⟩ := tp_R hR
  refine tri_wp (T := TT [(25, S25T G), (52, S52T G)]) (ls := [.ref 0, .null]) (TTc (fun as m Q h => h) (TTc (fun as m Q h => h) TTn)) c24 (by decide +kernel) (rt0 := some .long) rfl rfl (Nat.le_of_ble_eq_true rfl) rfl ?_
  simp (disch := omega) only [i24, wp_iinc, wpE0, wpE1, wpE2, wpE3, wpE4, wpE5, wpJ, okS, lt4S, popR, litS, Int32.reduceLT, Int32.reduceLE, List.getElem?_cons_zero, List.getElem?_cons_succ, Bool.false_eq_true, ↓reduceIte, Nat.reduceMod, Nat.reduceDiv, Nat.reduceAdd, Nat.reduceSub, Nat.reduceMul, Nat.reduceLeDiff, Nat.reduceEqDiff, Nat.reduceBEq, Int.reduceToNat, Int.reduceAdd, Int32.reduceOfInt, Int64.reduceOfInt, Int32.reduceToNatClampNeg, Int32.reduceOfNat, Bool.or_self, Bool.or_false, Bool.false_or, Bool.true_or, Bool.or_true, true_and, and_true, false_and, and_false, List.set_cons_zero, List.set_cons_succ, List.take_succ_cons, List.take_zero, List.drop_succ_cons, List.drop_zero, List.reverse_cons, List.reverse_nil, List.nil_append, List.cons_append, List.length_cons, List.length_nil, Option.toList_some, Option.toList_none, not_true_eq_false, not_false_eq_true, forall_const, true_implies, false_implies, nrw, TTS, shO, sh7L, and01, bI_0, bI_and, isCl, isRl, cmpS, toLS, toL_le, toL_lt, i2lS, inM, Int64.reduceLE, Int64.reduceLT, xa_1, xa_2, xa_xa, upd_at, updU, Nat.reduceEqDiff, ↓reduceIte, not_true_eq_false, not_false_eq_true, and_true, true_and, and_false, false_and, and_self, or_true, true_or, or_false, false_or, ↓reduceIte, if_true, if_false, eq_self, sh21L, S25T, S52T, not_true_eq_false, not_false_eq_true, and_true, true_and, and_false, false_and, and_self, or_true, true_or, or_false, false_or, ↓reduceIte, if_true, if_false, eq_self]
  refine t25x hTC (fun f p hp m2 hc h7 h8 => ?_) (fun k a hp m2 hc => ?_)
  · simp (disch := omega) only [wp_iinc, wpE0, wpE1, wpE2, wpE3, wpE4, wpE5, wpJ, okS, lt4S, popR, litS, Int32.reduceLT, Int32.reduceLE, List.getElem?_cons_zero, List.getElem?_cons_succ, Bool.false_eq_true, ↓reduceIte, Nat.reduceMod, Nat.reduceDiv, Nat.reduceAdd, Nat.reduceSub, Nat.reduceMul, Nat.reduceLeDiff, Nat.reduceEqDiff, Nat.reduceBEq, Int.reduceToNat, Int.reduceAdd, Int32.reduceOfInt, Int64.reduceOfInt, Int32.reduceToNatClampNeg, Int32.reduceOfNat, Bool.or_self, Bool.or_false, Bool.false_or, Bool.true_or, Bool.or_true, true_and, and_true, false_and, and_false, List.set_cons_zero, List.set_cons_succ, List.take_succ_cons, List.take_zero, List.drop_succ_cons, List.drop_zero, List.reverse_cons, List.reverse_nil, List.nil_append, List.cons_append, List.length_cons, List.length_nil, Option.toList_some, Option.toList_none, not_true_eq_false, not_false_eq_true, forall_const, true_implies, false_implies, nrw, TTS, shO, sh7L, and01, bI_0, bI_and, isCl, isRl, cmpS, toLS, toL_le, toL_lt, i2lS, inM, Int64.reduceLE, Int64.reduceLT, xa_1, xa_2, xa_xa, upd_at, updU, Nat.reduceEqDiff, ↓reduceIte, not_true_eq_false, not_false_eq_true, and_true, true_and, and_false, false_and, and_self, or_true, true_or, or_false, false_or, ↓reduceIte, if_true, if_false, eq_self, sh21L, S25T, S52T, h7, h8, not_true_eq_false, not_false_eq_true, and_true, true_and, and_false, false_and, and_self, or_true, true_or, or_false, false_or, ↓reduceIte, if_true, if_false, eq_self]
    refine h _ _ (fun Q' hq => ?_)
    generalize hmm : xa (xa m2 5 (upd (m2.1 5) 1 0)) 0 (upd (m2.1 0) 10 (nI f)) = mm
    have hq' : ∀ q, q ≠ 0 → q ≠ 5 → ¬ (21 ≤ q ∧ q ≤ 34) → mm.1 q = m.1 q := fun q q1 q2 q3 => by
      rw [← hmm, xa_ne q1, xa_ne q2]; exact hc.1 q q2 q3
    have m93 : mm.1 93 = m.1 93 := hq' 93 (by omega) (by omega) (by omega)
    have m86 : mm.1 86 = m.1 86 := hq' 86 (by omega) (by omega) (by omega)
    refine t154x (T := tpR m) (k0 := kZ m) (by unfold tpM; rw [m93]; exact hTM) (by rw [m86]; exact h10) ⟨rfl, rfl⟩ (fun f' p' hp' M hF => ?_) (fun k' a' hp' => ?_)
    · rw [hp] at hp'
      injection hp' with hp'
      injection hp' with z1 z2
      subst z1; subst z2
      obtain ⟨y1, y2, y3, y4⟩ := hF
      have same : ∀ q, q ≠ 0 → q ≠ 5 → q ≠ 86 → q ≠ 91 → ¬ (21 ≤ q ∧ q ≤ 34) → M.1 q = m.1 q := fun q q1 q2 q3 q4 q5 => (y1 q q3 q4).trans (hq' q q1 q2 q5)
      have e7 : M.1 7 = m.1 7 := same 7 (by omega) (by omega) (by omega) (by omega) (by omega)
      have e8 : M.1 8 = m.1 8 := same 8 (by omega) (by omega) (by omega) (by omega) (by omega)
      have e9 : M.1 9 = m.1 9 := same 9 (by omega) (by omega) (by omega) (by omega) (by omega)
      have e10 : M.1 10 = m.1 10 := same 10 (by omega) (by omega) (by omega) (by omega) (by omega)
      have e11 : M.1 11 = m.1 11 := same 11 (by omega) (by omega) (by omega) (by omega) (by omega)
      have e12 : M.1 12 = m.1 12 := same 12 (by omega) (by omega) (by omega) (by omega) (by omega)
      have e13 : M.1 13 = m.1 13 := same 13 (by omega) (by omega) (by omega) (by omega) (by omega)
      have e14 : M.1 14 = m.1 14 := same 14 (by omega) (by omega) (by omega) (by omega) (by omega)
      have e15 : M.1 15 = m.1 15 := same 15 (by omega) (by omega) (by omega) (by omega) (by omega)
      have e16 : M.1 16 = m.1 16 := same 16 (by omega) (by omega) (by omega) (by omega) (by omega)
      have e17 : M.1 17 = m.1 17 := same 17 (by omega) (by omega) (by omega) (by omega) (by omega)
      have e18 : M.1 18 = m.1 18 := same 18 (by omega) (by omega) (by omega) (by omega) (by omega)
      have e19 : M.1 19 = m.1 19 := same 19 (by omega) (by omega) (by omega) (by omega) (by omega)
      have e20 : M.1 20 = m.1 20 := same 20 (by omega) (by omega) (by omega) (by omega) (by omega)
      have e90 : M.1 90 = m.1 90 := same 90 (by omega) (by omega) (by omega) (by omega) (by omega)
      have e92 : M.1 92 = m.1 92 := same 92 (by omega) (by omega) (by omega) (by omega) (by omega)
      have x0 : M.1 0 = upd (m2.1 0) 10 (nI f) := by rw [y1 0 (by omega) (by omega), ← hmm]; rfl
      have x5 : M.1 5 = upd (m2.1 5) 1 0 := by rw [y1 5 (by omega) (by omega), ← hmm]; rfl
      refine hq _ (REL_read hR (fun q q1 q2 q3 q4 q5 q6 q7 => same q q1 q2 q3 q6 (by omega)) (by rw [x5]; rfl) y3 ?_ ?_ ?_ ?_ ?_ ?_)
      · have := hR.club
        simp only [kk, g6, Nat.reduceAdd] at this ⊢
        simp only [e7, e8, e9, e10, e11, e12, e13, e14, e15, e16, e17, e18, e19, e20, e90, e92]
        exact this
      · rw [y2 7 (by omega) (by omega) (by omega) (by omega), m86, e7]; exact hR.there
      · rw [x0, y4]; exact upd_eq rfl
      · rw [x0, y2 1 (by omega) (by omega) (by omega) (by omega), m86, upd_ne (by omega), hc.1 0 (by omega) (by omega)]; exact hR.status
      · rw [y2 31 (by omega) (by omega) (by omega) (by omega), m86]
      · rw [y2 7 (by omega) (by omega) (by omega) (by omega), m86]; exact hR.kth
    · rw [hp] at hp'; cases hp'
  · obtain ⟨hW, hkk, hD, hV⟩ := hc
    have hmu : m2.1 21 2 = 0 ∨ m2.1 21 2 = 1 := by have := hV.1.2.2.1; rw [← hkk] at this; exact this
    simp (disch := omega) only [wp_iinc, wpE0, wpE1, wpE2, wpE3, wpE4, wpE5, wpJ, okS, lt4S, popR, litS, Int32.reduceLT, Int32.reduceLE, List.getElem?_cons_zero, List.getElem?_cons_succ, Bool.false_eq_true, ↓reduceIte, Nat.reduceMod, Nat.reduceDiv, Nat.reduceAdd, Nat.reduceSub, Nat.reduceMul, Nat.reduceLeDiff, Nat.reduceEqDiff, Nat.reduceBEq, Int.reduceToNat, Int.reduceAdd, Int32.reduceOfInt, Int64.reduceOfInt, Int32.reduceToNatClampNeg, Int32.reduceOfNat, Bool.or_self, Bool.or_false, Bool.false_or, Bool.true_or, Bool.or_true, true_and, and_true, false_and, and_false, List.set_cons_zero, List.set_cons_succ, List.take_succ_cons, List.take_zero, List.drop_succ_cons, List.drop_zero, List.reverse_cons, List.reverse_nil, List.nil_append, List.cons_append, List.length_cons, List.length_nil, Option.toList_some, Option.toList_none, not_true_eq_false, not_false_eq_true, forall_const, true_implies, false_implies, nrw, TTS, shO, sh7L, and01, bI_0, bI_and, isCl, isRl, cmpS, toLS, toL_le, toL_lt, i2lS, inM, Int64.reduceLE, Int64.reduceLT, xa_1, xa_2, xa_xa, upd_at, updU, Nat.reduceEqDiff, ↓reduceIte, not_true_eq_false, not_false_eq_true, and_true, true_and, and_false, false_and, and_self, or_true, true_or, or_false, false_or, ↓reduceIte, if_true, if_false, eq_self, sh21L, S25T, S52T, not_true_eq_false, not_false_eq_true, and_true, true_and, and_false, false_and, and_self, or_true, true_or, or_false, false_or, ↓reduceIte, if_true, if_false, eq_self]
    refine t52 [.ref 7, .ref 21] _ _ ⟨Or.inr (Or.inr (Or.inr (Or.inr (Or.inl ⟨rfl, rfl⟩)))), hmu, fun m3 f1 f2 ek ex et => ?_⟩
    have ek' : EKK k (kk m3 7) := by rw [← hkk]; exact ek
    have e74 : m3.1 7 4 = kNb k := ek'.1.2.2.2.1
    simp (disch := omega) only [wp_iinc, wpE0, wpE1, wpE2, wpE3, wpE4, wpE5, wpJ, okS, lt4S, popR, litS, Int32.reduceLT, Int32.reduceLE, List.getElem?_cons_zero, List.getElem?_cons_succ, Bool.false_eq_true, ↓reduceIte, Nat.reduceMod, Nat.reduceDiv, Nat.reduceAdd, Nat.reduceSub, Nat.reduceMul, Nat.reduceLeDiff, Nat.reduceEqDiff, Nat.reduceBEq, Int.reduceToNat, Int.reduceAdd, Int32.reduceOfInt, Int64.reduceOfInt, Int32.reduceToNatClampNeg, Int32.reduceOfNat, Bool.or_self, Bool.or_false, Bool.false_or, Bool.true_or, Bool.or_true, true_and, and_true, false_and, and_false, List.set_cons_zero, List.set_cons_succ, List.take_succ_cons, List.take_zero, List.drop_succ_cons, List.drop_zero, List.reverse_cons, List.reverse_nil, List.nil_append, List.cons_append, List.length_cons, List.length_nil, Option.toList_some, Option.toList_none, not_true_eq_false, not_false_eq_true, forall_const, true_implies, false_implies, nrw, TTS, shO, sh7L, and01, bI_0, bI_and, isCl, isRl, cmpS, toLS, toL_le, toL_lt, i2lS, inM, Int64.reduceLE, Int64.reduceLT, xa_1, xa_2, xa_xa, upd_at, updU, Nat.reduceEqDiff, ↓reduceIte, not_true_eq_false, not_false_eq_true, and_true, true_and, and_false, false_and, and_self, or_true, true_or, or_false, false_or, ↓reduceIte, if_true, if_false, eq_self, sh21L, S25T, S52T, e74, not_true_eq_false, not_false_eq_true, and_true, true_and, and_false, false_and, and_self, or_true, true_or, or_false, false_or, ↓reduceIte, if_true, if_false, eq_self]
    refine h _ _ (fun Q' hq => ?_)
    have hq' : ∀ q, (q < 7 ∨ 20 < q) → q ≠ 5 → ¬ (21 ≤ q ∧ q ≤ 34) → m3.1 q = m.1 q := fun q q1 q2 q3 => by
      rw [f1 q (by omega), xa_ne q2]; exact hW.1.1 q q2 q3
    have m93 : m3.1 93 = m.1 93 := hq' 93 (by omega) (by omega) (by omega)
    have m86 : m3.1 86 = m.1 86 := hq' 86 (by omega) (by omega) (by omega)
    refine t154x (T := tpR m) (k0 := kZ m) (by unfold tpM; rw [m93]; exact hTM) (by rw [m86]; exact h10) ⟨rfl, rfl⟩ (fun f' p' hp' => ?_) (fun k' a' hp' M hF => ?_)
    · rw [hp] at hp'; cases hp'
    · rw [hp] at hp'
      injection hp' with hp'
      injection hp' with z1 z2
      subst z1; subst z2
      obtain ⟨y1, y2, y3, y4, y5, y6, y7, y8, y9, y10⟩ := hF
      have hnz : ¬ kNb k = 0 := fun y => by rw [y] at y10; exact absurd y10 (by decide)
      have x0 : M.1 0 = m.1 0 := by rw [y1 0 (by omega) (by omega) (by omega) (by omega)]; exact hq' 0 (by omega) (by omega) (by omega)
      have x5 : M.1 5 = upd (m2.1 5) 1 0 := by rw [y1 5 (by omega) (by omega) (by omega) (by omega), f1 5 (by omega)]; rfl
      have e7 : M.1 7 = m3.1 7 := y1 7 (by omega) (by omega) (by omega) (by omega)
      have e8 : M.1 8 = m3.1 8 := y1 8 (by omega) (by omega) (by omega) (by omega)
      have e9 : M.1 9 = m3.1 9 := y1 9 (by omega) (by omega) (by omega) (by omega)
      have e10 : M.1 10 = m3.1 10 := y1 10 (by omega) (by omega) (by omega) (by omega)
      have e11 : M.1 11 = m3.1 11 := y1 11 (by omega) (by omega) (by omega) (by omega)
      have e12 : M.1 12 = m3.1 12 := y1 12 (by omega) (by omega) (by omega) (by omega)
      have e13 : M.1 13 = m3.1 13 := y1 13 (by omega) (by omega) (by omega) (by omega)
      have e14 : M.1 14 = m3.1 14 := y1 14 (by omega) (by omega) (by omega) (by omega)
      have e15 : M.1 15 = m3.1 15 := y1 15 (by omega) (by omega) (by omega) (by omega)
      have e16 : M.1 16 = m3.1 16 := y1 16 (by omega) (by omega) (by omega) (by omega)
      have e17 : M.1 17 = m3.1 17 := y1 17 (by omega) (by omega) (by omega) (by omega)
      have e18 : M.1 18 = m3.1 18 := y1 18 (by omega) (by omega) (by omega) (by omega)
      have e19 : M.1 19 = m3.1 19 := y1 19 (by omega) (by omega) (by omega) (by omega)
      have e20 : M.1 20 = m3.1 20 := y1 20 (by omega) (by omega) (by omega) (by omega)
      refine hq _ (REL_read hR (fun q q1 q2 q3 q4 q5 q6 q7 => (y1 q q3 q5 q6 q7).trans (hq' q (by omega) q2 (by omega))) (by rw [x5]; rfl) y4 ?_ ?_ ?_ ?_ ?_ ⟨fun _ => by rw [y3]; exact one_ne, fun _ => by rw [y3]; exact one_ne⟩)
      · have hrc := RC_e (RC_new hD hkk hV y5 y6 y7 y8) ek' ex (t' := m3.1 7 3) (by rw [et]; exact hD.1) (fun _ _ => rfl) (fun _ _ => rfl)
        simp only [kk, g6, Nat.reduceAdd] at hrc ⊢
        simp only [e7, e8, e9, e10, e11, e12, e13, e14, e15, e16, e17, e18, e19, e20]
        exact hrc
      · rw [y3, e7, e74]
        exact propext ⟨fun y => absurd y one_ne, fun y => absurd y hnz⟩
      · rw [x0, y2 11 (by omega) (by omega) (by omega) (by omega), m86]; exact hR.fault
      · rw [x0, y2 1 (by omega) (by omega) (by omega) (by omega), m86]; exact hR.status
      · rw [y2 31 (by omega) (by omega) (by omega) (by omega), m86]


