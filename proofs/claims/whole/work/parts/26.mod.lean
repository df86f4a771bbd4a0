def S195b (k : KK) (X : X6) (as : List Value) (m : xM) (Q : xQt) : Prop := match as with
  | [.ref o, .ref r, .int b] => (o = 86) ∧ (isR r) ∧ (m.1 90 4 ≤ 12) ∧ (vp_in b 6) ∧ (ix b < ix (m.1 90 3)) ∧ (EK k (m.1 90)) ∧ (E6 (ix (m.1 90 4)) X (m.1 r)) ∧ (∀ h, h < ix (m.1 90 4) → 1 ≤ 6 * m.1 90 (29 + 3 * h + 2)) ∧ (∀ F, E6 (ix (m.1 90 4)) (aChill k X b) F → F 48 = m.1 r 48 → Q none (xa m r F))
  | _ => False
theorem s195b (k : KK) (X : X6) (o : Nat) (r : Nat) (b : Int32) (m : xM) (Q : xQt) : S195b k X [.ref o, .ref r, .int b] m Q = ((o = 86) ∧ (isR r) ∧ (m.1 90 4 ≤ 12) ∧ (vp_in b 6) ∧ (ix b < ix (m.1 90 3)) ∧ (EK k (m.1 90)) ∧ (E6 (ix (m.1 90 4)) X (m.1 r)) ∧ (∀ h, h < ix (m.1 90 4) → 1 ≤ 6 * m.1 90 (29 + 3 * h + 2)) ∧ (∀ F, E6 (ix (m.1 90 4)) (aChill k X b) F → F 48 = m.1 r 48 → Q none (xa m r F))) := rfl
theorem t195b {G : xG} (k : KK) (X : X6) : ∀ as m Q, S195b k X as m Q → Tri G 195 as m Q := by
  intro as m Q h
  match as, h with
  | [.ref o, .ref r, .int b], h =>
    obtain ⟨rfl, hr, hn, hb, hbb, hk, hx, hL, h⟩ := h
    exact t195 [.ref 86, .ref r, .int b] m Q ⟨rfl, hr, hn, hb, fun zi hzi hz0 => absurd (hL zi hzi) (by rw [hz0]; decide), h _ (e_chill hk hx hn hb hL (fun _ _ z => pos_iff _)) (sm2_hi (by omega) (ix_max (k := 12) hn (by decide)) (by omega))⟩

def S183b (k : KK) (X : X6) (s : Int32) (as : List Value) (m : xM) (Q : xQt) : Prop := match as with
  | [.ref o, .ref r, .int b, .int dw] => (o = 86) ∧ (isR r) ∧ (m.1 90 4 ≤ 12) ∧ (vp_in b 6) ∧ (ix b < ix (m.1 90 3)) ∧ (EK k (m.1 90)) ∧ (E6 (ix (m.1 90 4)) X (m.1 r)) ∧ (0 ≤ (m.1 90 (5 + 4 * ix b + 1)).toInt ∧ (m.1 90 (5 + 4 * ix b + 1)).toInt ≤ 30) ∧ (m.1 90 2 = 0 ∨ m.1 90 2 = 1) ∧ (∀ h, h < ix (m.1 90 4) → 1 ≤ 6 * m.1 90 (29 + 3 * h + 2)) ∧ (m.1 r (4 * ix b + 0) = 0 ∨ m.1 r (4 * ix b + 0) = 1 ∨ m.1 r (4 * ix b + 0) = 2 ∨ m.1 r (4 * ix b + 0) = 3 ∨ m.1 r (4 * ix b + 0) = 4) ∧ (xOKs s (m.2 86 19)) ∧ (0 ≤ (m.1 90 1).toInt ∧ (m.1 90 1).toInt ≤ 40) ∧ ((s = 0) = (¬ dw = 0)) ∧ (∀ F, E6 (ix (m.1 90 4)) (aTick k X b s (m.2 86 19)).1 F → F 48 = m.1 r 48 → Q none (xa (xb m 86 (vp_updL (m.2 86) 19 (aTick k X b s (m.2 86 19)).2)) r F))
  | _ => False
theorem s183b (k : KK) (X : X6) (s : Int32) (o : Nat) (r : Nat) (b : Int32) (dw : Int32) (m : xM) (Q : xQt) : S183b k X s [.ref o, .ref r, .int b, .int dw] m Q = ((o = 86) ∧ (isR r) ∧ (m.1 90 4 ≤ 12) ∧ (vp_in b 6) ∧ (ix b < ix (m.1 90 3)) ∧ (EK k (m.1 90)) ∧ (E6 (ix (m.1 90 4)) X (m.1 r)) ∧ (0 ≤ (m.1 90 (5 + 4 * ix b + 1)).toInt ∧ (m.1 90 (5 + 4 * ix b + 1)).toInt ≤ 30) ∧ (m.1 90 2 = 0 ∨ m.1 90 2 = 1) ∧ (∀ h, h < ix (m.1 90 4) → 1 ≤ 6 * m.1 90 (29 + 3 * h + 2)) ∧ (m.1 r (4 * ix b + 0) = 0 ∨ m.1 r (4 * ix b + 0) = 1 ∨ m.1 r (4 * ix b + 0) = 2 ∨ m.1 r (4 * ix b + 0) = 3 ∨ m.1 r (4 * ix b + 0) = 4) ∧ (xOKs s (m.2 86 19)) ∧ (0 ≤ (m.1 90 1).toInt ∧ (m.1 90 1).toInt ≤ 40) ∧ ((s = 0) = (¬ dw = 0)) ∧ (∀ F, E6 (ix (m.1 90 4)) (aTick k X b s (m.2 86 19)).1 F → F 48 = m.1 r 48 → Q none (xa (xb m 86 (vp_updL (m.2 86) 19 (aTick k X b s (m.2 86 19)).2)) r F))) := rfl
theorem t183b {G : xG} (k : KK) (X : X6) (s : Int32) : ∀ as m Q, S183b k X s as m Q → Tri G 183 as m Q := by
  intro as m Q h
  match as, h with
  | [.ref o, .ref r, .int b, .int dw], h =>
    obtain ⟨rfl, hr, hn, hb, hbb, hk, hx, hsa, hmu, hL, hho, hxo, hwi, hs, h⟩ := h
    obtain ⟨j, hj, rfl⟩ := vp_in_of hb (by decide)
    have hbj : ix (nI j) = j := clN (by omega)
    rw [hbj] at hbb
    refine tri_wp (T := TT [(184, S184b k X s), (189, S189b k X s), (194, S194b k X), (195, S195b k (aT1 k X (nI j) s (m.2 86 19)).1)]) (ls := [.ref 86, .ref r, .int (nI j), .int dw]) (TTc (t184b k X s) (TTc (t189b k X s) (TTc (t194b k X) (TTc (t195b k (aT1 k X (nI j) s (m.2 86 19)).1) TTn)))) c183 (by decide +kernel) (rt0 := none) rfl rfl (Nat.le_of_ble_eq_true rfl) rfl ?_
    simp (disch := omega) only [i183, wp_iinc, wpE0, wpE1, wpE2, wpE3, wpE4, wpE5, wpJ, okS, lt4S, popR, litS, Int32.reduceLT, Int32.reduceLE, List.getElem?_cons_zero, List.getElem?_cons_succ, Bool.false_eq_true, ↓reduceIte, Nat.reduceMod, Nat.reduceDiv, Nat.reduceAdd, Nat.reduceSub, Nat.reduceMul, Nat.reduceLeDiff, Nat.reduceEqDiff, Nat.reduceBEq, Int.reduceToNat, Int.reduceAdd, Int32.reduceOfInt, Int64.reduceOfInt, Int32.reduceToNatClampNeg, Int32.reduceOfNat, Bool.or_self, Bool.or_false, Bool.false_or, Bool.true_or, Bool.or_true, true_and, and_true, false_and, and_false, List.set_cons_zero, List.set_cons_succ, List.take_succ_cons, List.take_zero, List.drop_succ_cons, List.drop_zero, List.reverse_cons, List.reverse_nil, List.nil_append, List.cons_append, List.length_cons, List.length_nil, Option.toList_some, Option.toList_none, not_true_eq_false, not_false_eq_true, forall_const, true_implies, false_implies, nrw, TTS, s184b, s189b, s194b, s195b, shM, isRl, and01, bI_0, linS, nI_add, clN, inN, inLS, xa_1, xa_2, xa_xa, neR hr, upd_ne, shR hr, xb_1, xb_2, xb_xa, updL_1, litM, i2lS, Int32.reduceOfInt, Int.reduceAdd, hr, hn, hb, hbb, hk, hx, hsa, hmu, hL, hho, hxo, hwi, hs]
    unfold aTick at h
    rw [hbj] at hho
    have hXo : xHo X j = m.1 r (4 * j + 0) := (hx.1 j hj).1
    have e := aT1_eq k X (nI j) s (m.2 86 19)
    rw [hbj] at e
    have hsa2 := hsa
    rw [hbj] at hsa2
    have key : ∀ Y : X6 × Int64, aT1 k X (nI j) s (m.2 86 19) = Y → ∀ F, E6 (ix (m.1 90 4)) Y.1 F → F 48 = m.1 r 48 → E6 (ix (m.1 90 4)) (aT1 k X (nI j) s (m.2 86 19)).1 F ∧ (∀ (h : Nat), h < ix (m.1 90 4) → 1 ≤ 6 * m.1 90 (29 + 3 * h + 2)) ∧ ∀ F1, E6 (ix (m.1 90 4)) (aChill k (aT1 k X (nI j) s (m.2 86 19)).1 (nI j)) F1 → F1 48 = F 48 → Q none (xa (xb m 86 (vp_updL (m.2 86) 19 Y.2)) r F1) := by
      intro Y hY F hF hF2
      rw [hY] at h ⊢
      exact ⟨hF, hL, fun F1 h1 h2 => h F1 h1 (h2.trans hF2)⟩
    have keyR : ∀ (hY : aT1 k X (nI j) s (m.2 86 19) = (aRnd k X (nI j), m.2 86 19)) (F : Nat → Int32), E6 (ix (m.1 90 4)) (aRnd k X (nI j)) F → F 48 = m.1 r 48 → E6 (ix (m.1 90 4)) (aT1 k X (nI j) s (m.2 86 19)).1 F ∧ (∀ (h : Nat), h < ix (m.1 90 4) → 1 ≤ 6 * m.1 90 (29 + 3 * h + 2)) ∧ ∀ F1, E6 (ix (m.1 90 4)) (aChill k (aT1 k X (nI j) s (m.2 86 19)).1 (nI j)) F1 → F1 48 = F 48 → Q none (xa m r F1) := by
      intro hY F hF hF2
      have z := key _ hY F hF hF2
      simp only [xb_id19] at z
      exact z
    refine ⟨fun z0 => ⟨hsa2, key _ ?_⟩, fun z0 => ⟨fun z1 => ⟨z1, key _ ?_⟩, fun z1 => ⟨fun z2 => keyR ?_, fun z2 => ⟨fun z3 => keyR ?_, fun z3 => ⟨fun z4 => ⟨hsa2, key _ ?_⟩, fun z4 => ?_⟩⟩⟩⟩⟩
    · rw [e, hXo, z0]; rfl
    · rw [e, hXo, z1]; rfl
    · rw [e, hXo, z2]; rfl
    · rw [e, hXo, z3]; rfl
    · rw [e, hXo, z4]; rfl
    · exact absurd hho (by simp only [z0, z1, z2, z3, z4, or_false, not_false_eq_true])
