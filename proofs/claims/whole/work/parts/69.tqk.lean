/-- a hand is told where to be -/
def tell (X : X6) (b h : Nat) (d : Int32) : X6 := if ¬ xGr X h ≤ 0 then (X.1, X.2.1, X.2.2.1, X.2.2.2.1, upd (xSp X) h (if d = 0 ∧ ¬ xHo X b = 0 ∧ ¬ xHo X b = 4 then 1 else d), X.2.2.2.2.2) else X
def tl2 (X : X6) (b h1 h2 D : Nat) : X6 := tell (tell X b h1 (nI (D / 4))) b h2 (nI (D % 4))
def qst (k : KK) (X : X6) (b : Int32) (h1 h2 D : Nat) : X6 := (aTick k (tl2 X (ix b) h1 h2 D) b 1 0).1
def dig (r t : Nat) : Nat := if t = 1 then r / 256 else if t = 2 then r / 16 % 16 else r % 16
def qrn (k : KK) (X : X6) (b : Int32) (h1 h2 r : Nat) : Nat → X6
  | 0 => X
  | t + 1 => qst k (qrn k X b h1 h2 r t) b h1 h2 (dig r (t + 1))
def qtk (k : KK) (X : X6) (b : Int32) (h1 h2 r : Nat) : Nat := fi (fun t => xHo (qrn k X b h1 h2 r (t + 1)) (ix b) = 0) 20 + 1
theorem one_ne : ¬ (1 : Int32) = 0 := by decide
theorem tick_x (k : KK) (X : X6) (b : Int32) (x : Int64) : aTick k X b 1 x = ((aTick k X b 1 0).1, x) := by
  unfold aTick aT1 aUp aRide
  simp only [one_ne, if_false]
  by_cases h1 : xHo X (ix b) = 1
  · simp only [if_pos h1]
    by_cases h2 : aLever k X b < aNeed k X b
    · simp only [if_pos h2]
    · simp only [if_neg h2]
  · simp only [if_neg h1]
    by_cases h2 : xHo X (ix b) = 2
    · simp only [if_pos h2]
      by_cases h3 : aLever k X b < 2 * aNeed k X b
      · simp only [if_pos h3]
      · simp only [if_neg h3]
    · simp only [if_neg h2]
      by_cases h3 : xHo X (ix b) = 3
      · simp only [if_pos h3]
      · simp only [if_neg h3]
theorem tell_S (X : X6) (b h : Nat) (d : Int32) : (tell X b h d).1 = X.1 ∧ (tell X b h d).2.1 = X.2.1 ∧ (tell X b h d).2.2.1 = X.2.2.1 ∧ (tell X b h d).2.2.2.2.2 = X.2.2.2.2.2 := by
  unfold tell
  by_cases z : ¬ xGr X h ≤ 0
  · simp only [if_pos z, and_self]
  · simp only [if_neg z, and_self]
theorem tell_o {X : X6} {b h g : Nat} {d : Int32} (e : g ≠ h) : xSp (tell X b h d) g = xSp X g := by
  unfold tell
  by_cases z : ¬ xGr X h ≤ 0
  · rw [if_pos z]; exact upd_ne e
  · rw [if_neg z]
theorem tell_at {X : X6} {b h : Nat} {d : Int32} (z : ¬ xGr X h ≤ 0) : xSp (tell X b h d) h = if d = 0 ∧ ¬ xHo X b = 0 ∧ ¬ xHo X b = 4 then 1 else d := by
  unfold tell
  rw [if_pos z]; exact upd_eq rfl
def z1 (d : Nat) : Nat := if d = 1 then 0 else d
def z2 (D : Nat) : Nat := 4 * z1 (D / 4) + z1 (D % 4)
theorem z1_lt {d : Nat} (h : d < 4) : z1 d < 4 := by unfold z1; split <;> omega
theorem z2_d {D : Nat} (h : D < 16) : z2 D / 4 = z1 (D / 4) ∧ z2 D % 4 = z1 (D % 4) := by
  have h1 := z1_lt (d := D / 4) (by omega)
  have h2 := z1_lt (d := D % 4) (by omega)
  unfold z2
  omega
theorem tell_z {X : X6} {b h d : Nat} (hd : d < 4) (h0 : ¬ xHo X b = 0) (h4 : ¬ xHo X b = 4) : tell X b h (nI (z1 d)) = tell X b h (nI d) := by
  unfold tell
  by_cases z : ¬ xGr X h ≤ 0
  · rw [if_pos z, if_pos z]
    by_cases e : d = 1
    · subst e
      have e1 : (if nI (z1 1) = 0 ∧ ¬ xHo X b = 0 ∧ ¬ xHo X b = 4 then (1 : Int32) else nI (z1 1)) = 1 := if_pos ⟨rfl, h0, h4⟩
      have e2 : (if nI 1 = 0 ∧ ¬ xHo X b = 0 ∧ ¬ xHo X b = 4 then (1 : Int32) else nI 1) = 1 := if_neg (fun y => absurd y.1 (by decide))
      rw [e1, e2]
    · rw [show z1 d = d from if_neg e]
  · rw [if_neg z, if_neg z]
theorem tl2_z {X : X6} {b h1 h2 D : Nat} (hD : D < 16) (h0 : ¬ xHo X b = 0) (h4 : ¬ xHo X b = 4) : tl2 X b h1 h2 (z2 D) = tl2 X b h1 h2 D := by
  obtain ⟨e1, e2⟩ := z2_d hD
  unfold tl2
  rw [e1, e2, tell_z (by omega) h0 h4]
  refine tell_z (by omega) ?_ ?_
  · show ¬ (tell X b h1 (nI (D / 4))).1 b = 0
    rw [(tell_S X b h1 _).1]; exact h0
  · show ¬ (tell X b h1 (nI (D / 4))).1 b = 4
    rw [(tell_S X b h1 _).1]; exact h4
theorem tl2_S (X : X6) (b h1 h2 D : Nat) : (tl2 X b h1 h2 D).1 = X.1 ∧ (tl2 X b h1 h2 D).2.1 = X.2.1 ∧ (tl2 X b h1 h2 D).2.2.1 = X.2.2.1 ∧ (tl2 X b h1 h2 D).2.2.2.2.2 = X.2.2.2.2.2 := by
  obtain ⟨a1, a2, a3, a4⟩ := tell_S X b h1 (nI (D / 4))
  obtain ⟨b1, b2, b3, b4⟩ := tell_S (tell X b h1 (nI (D / 4))) b h2 (nI (D % 4))
  exact ⟨b1.trans a1, b2.trans a2, b3.trans a3, b4.trans a4⟩
theorem tl2_o {X : X6} {b h1 h2 D g : Nat} (e1 : g ≠ h1) (e2 : g ≠ h2) : xSp (tl2 X b h1 h2 D) g = xSp X g := (tell_o e2).trans (tell_o e1)
theorem tl2_1 {X : X6} {b h1 h2 D : Nat} (hh : h1 ≠ h2) (z : ¬ xGr X h1 ≤ 0) : xSp (tl2 X b h1 h2 D) h1 = if nI (D / 4) = 0 ∧ ¬ xHo X b = 0 ∧ ¬ xHo X b = 4 then 1 else nI (D / 4) := (tell_o hh).trans (tell_at z)
theorem tl2_2 {X : X6} {b h1 h2 D : Nat} (z : ¬ xGr X h2 ≤ 0) : xSp (tl2 X b h1 h2 D) h2 = if nI (D % 4) = 0 ∧ ¬ xHo X b = 0 ∧ ¬ xHo X b = 4 then 1 else nI (D % 4) := by
  obtain ⟨a1, a2, a3, a4⟩ := tell_S X b h1 (nI (D / 4))
  unfold tl2
  rw [tell_at (by show ¬ (tell X b h1 (nI (D / 4))).2.2.2.2.2 h2 ≤ 0; rw [a4]; exact z)]
  show (if _ = 0 ∧ ¬ (tell X b h1 (nI (D / 4))).1 b = 0 ∧ ¬ (tell X b h1 (nI (D / 4))).1 b = 4 then _ else _) = _
  simp only [a1]

theorem tick_4 {k : KK} {X : X6} {b : Int32} (h : xHo X (ix b) = 4) (x : Int64) : (aTick k X b 1 x).1 = aChill k (aBail k X b) b := by
  unfold aTick aT1 aRide
  have n1 : ¬ xHo X (ix b) = 1 := by rw [h]; decide
  have n2 : ¬ xHo X (ix b) = 2 := by rw [h]; decide
  have n3 : ¬ xHo X (ix b) = 3 := by rw [h]; decide
  simp only [if_neg n1, if_neg n2, if_neg n3, if_neg one_ne]
theorem abl_le {k : KK} {X' X : X6} {b : Int32} (h : ∀ g, g < ix (kNh k) → kBo k g = b ∧ xSp X g = 0 ∧ ¬ xGr X g ≤ 0 → kBo k g = b ∧ xSp X' g = 0 ∧ ¬ xGr X' g ≤ 0) (hn : ix (kNh k) ≤ 12) : ∃ a a' : Nat, a ≤ a' ∧ a' ≤ 12 ∧ aAble k X b 0 = nI a ∧ aAble k X' b 0 = nI a' := by
  refine ⟨cnt (fun g => kBo k g = b ∧ xSp X g = 0 ∧ ¬ xGr X g ≤ 0) (ix (kNh k)), cnt (fun g => kBo k g = b ∧ xSp X' g = 0 ∧ ¬ xGr X' g ≤ 0) (ix (kNh k)), cnt_mono h, Nat.le_trans (cnt_le _ _) hn, fd_cnt _ _, fd_cnt _ _⟩

theorem bailW_i {w a r : Int32} {n : Nat} (hw : bt w 0 70) (ha : a = nI n) (hn : n ≤ 12) (hr : bt r 0 9) : (if 0 < w - 5 * a - r then w - 5 * a - r else 0).toInt = max 0 (w.toInt - 5 * (n : Int) - r.toInt) := by
  obtain ⟨w1, w2⟩ := hw
  obtain ⟨r1, r2⟩ := hr
  have e5 : (5 : Int32).toInt = 5 := rfl
  have e0 : (0 : Int32).toInt = 0 := rfl
  have ea : a.toInt = n := by rw [ha]; exact nI_toInt (by omega)
  have e : (w - 5 * a - r).toInt = w.toInt - 5 * (n : Int) - r.toInt := by
    simp (disch := omega) only [Int32.toInt_sub, Int32.toInt_mul, e5, ea, bm32]
  by_cases z : 0 < w - 5 * a - r
  · rw [if_pos z, e]
    rw [Int32.lt_iff_toInt_lt, e, e0] at z
    omega
  · rw [if_neg z, e0]
    rw [Int32.lt_iff_toInt_lt, e, e0] at z
    omega

def dmB (b h1 h2 : Nat) (X' X : X6) : Prop := xHo X' b = 4 ∧ xHo X b = 4 ∧ xGr X' = xGr X ∧ (xWa X' b).toInt ≤ (xWa X b).toInt ∧ ∀ g, g ≠ h1 → g ≠ h2 → xSp X' g = xSp X g
theorem z1_0 {d : Nat} (hd : d < 4) (h : nI d = 0) : nI (z1 d) = 0 := by
  have e : d = 0 := (nI_z (by omega)).mp h
  rw [e]; rfl
theorem dom_B {k : KK} {X' X : X6} {b : Int32} {h1 h2 D : Nat} (hk : VKK k) (hv' : VXX k X') (hv : VXX k X) (hb : ix b < ix (kNb k)) (hh : h1 ≠ h2) (hD : D < 16) (h : dmB (ix b) h1 h2 X' X) : xHo (qst k X' b h1 h2 (z2 D)) (ix b) = 0 ∨ dmB (ix b) h1 h2 (qst k X' b h1 h2 (z2 D)) (qst k X b h1 h2 D) := by
  obtain ⟨a1, a2, a3, a4, a5⟩ := h
  obtain ⟨s1, s2, s3, s4⟩ := tl2_S X' (ix b) h1 h2 (z2 D)
  obtain ⟨t1, t2, t3, t4⟩ := tl2_S X (ix b) h1 h2 D
  obtain ⟨y1, y2⟩ := z2_d hD
  have hn : ix (kNh k) ≤ 12 := (ix_b (n := 12) (by decide) hk.1.2.2.2.2).1
  have c1 : xHo (tl2 X' (ix b) h1 h2 (z2 D)) (ix b) = 4 := by show (tl2 X' (ix b) h1 h2 (z2 D)).1 (ix b) = 4; rw [s1]; exact a1
  have c2 : xHo (tl2 X (ix b) h1 h2 D) (ix b) = 4 := by show (tl2 X (ix b) h1 h2 D).1 (ix b) = 4; rw [t1]; exact a2
  have g1 : xGr (tl2 X' (ix b) h1 h2 (z2 D)) = xGr X := s4.trans a3
  have g2 : xGr (tl2 X (ix b) h1 h2 D) = xGr X := t4
  have w1 : xWa (tl2 X' (ix b) h1 h2 (z2 D)) = xWa X' := s3
  have w2 : xWa (tl2 X (ix b) h1 h2 D) = xWa X := t3
  have p0 : ∀ g, g ≠ h1 → g ≠ h2 → xSp (tl2 X' (ix b) h1 h2 (z2 D)) g = xSp (tl2 X (ix b) h1 h2 D) g := fun g e1 e2 => by rw [tl2_o e1 e2, tl2_o e1 e2]; exact a5 g e1 e2
  have hi4 : ∀ d : Int32, (if d = 0 ∧ ¬ xHo X (ix b) = 0 ∧ ¬ xHo X (ix b) = 4 then (1 : Int32) else d) = d := fun d => if_neg (fun y => y.2.2 a2)
  have hi4' : ∀ d : Int32, (if d = 0 ∧ ¬ xHo X' (ix b) = 0 ∧ ¬ xHo X' (ix b) = 4 then (1 : Int32) else d) = d := fun d => if_neg (fun y => y.2.2 a1)
  have p1 : ∀ g, ¬ xGr X g ≤ 0 → xSp (tl2 X (ix b) h1 h2 D) g = 0 → xSp (tl2 X' (ix b) h1 h2 (z2 D)) g = 0 := by
    intro g hg hs
    by_cases e1 : g = h1
    · subst e1
      rw [tl2_1 hh hg, hi4] at hs
      rw [tl2_1 hh (by rw [a3]; exact hg), hi4', y1]
      exact z1_0 (by omega) hs
    · by_cases e2 : g = h2
      · subst e2
        rw [tl2_2 hg, hi4] at hs
        rw [tl2_2 (by rw [a3]; exact hg), hi4', y2]
        exact z1_0 (by omega) hs
      · rw [p0 g e1 e2]; exact hs
  obtain ⟨a, a', l1, l2, l3, l4⟩ := abl_le (k := k) (b := b) (X' := tl2 X' (ix b) h1 h2 (z2 D)) (X := tl2 X (ix b) h1 h2 D) (fun g _ hg => ⟨hg.1, p1 g (by rw [← g2]; exact hg.2.2) hg.2.1, by rw [g1, ← g2]; exact hg.2.2⟩) hn
  have hA := (hk.2.1 (ix b) hb).2.2.1
  have b1 : (aBailW k (tl2 X' (ix b) h1 h2 (z2 D)) b).toInt = _ := bailW_i (by rw [w1]; exact (hv'.1 (ix b) hb).2.2) l4 l2 hA
  have b2 : (aBailW k (tl2 X (ix b) h1 h2 D) b).toInt = _ := bailW_i (by rw [w2]; exact (hv.1 (ix b) hb).2.2) l3 (by omega) hA
  rw [w1] at b1
  rw [w2] at b2
  have hle : (aBailW k (tl2 X' (ix b) h1 h2 (z2 D)) b).toInt ≤ (aBailW k (tl2 X (ix b) h1 h2 D) b).toInt := by rw [b1, b2]; omega
  unfold qst
  rw [tick_4 c1, tick_4 c2]
  generalize tl2 X' (ix b) h1 h2 (z2 D) = T' at *
  generalize tl2 X (ix b) h1 h2 D = T at *
  have q1 : aBail k T' b = (upd T'.1 (ix b) (if aBailW k T' b = 0 then 0 else 4), T'.2.1, upd T'.2.2.1 (ix b) (aBailW k T' b), T'.2.2.2) := if_pos c1
  have q2 : aBail k T b = (upd T.1 (ix b) (if aBailW k T b = 0 then 0 else 4), T.2.1, upd T.2.2.1 (ix b) (aBailW k T b), T.2.2.2) := if_pos c2
  by_cases z : aBailW k T' b = 0
  · refine Or.inl ?_
    rw [q1]
    show upd T'.1 (ix b) _ (ix b) = 0
    rw [upd_eq rfl, if_pos z]
  · have z2' : ¬ aBailW k T b = 0 := by
      intro y
      have h0 : (0 : Int32).toInt = 0 := rfl
      rw [y, h0] at hle
      apply z
      rw [← Int32.toInt_inj, h0]
      rw [b1] at hle ⊢
      omega
    rw [if_neg z] at q1
    rw [if_neg z2'] at q2
    have u1 : upd T'.1 (ix b) 4 (ix b) = 4 := upd_eq rfl
    have u2 : upd T.1 (ix b) 4 (ix b) = 4 := upd_eq rfl
    rw [q1, q2]
    refine Or.inr ⟨u1, u2, ?_, ?_, p0⟩
    · have g3 : T'.2.2.2.2.2 = T.2.2.2.2.2 := g1.trans g2.symm
      funext g
      simp only [aChill, mapF, kWa, kWi, kMu, kNb, kNh, kBe, kSa, kAi, kFl, kBo, kWe, kLa, xHo, xMa, xWa, xSi, xSp, xGr, u1, u2, g3, or_true, and_true]
    · show (upd T'.2.2.1 (ix b) _ (ix b)).toInt ≤ (upd T.2.2.1 (ix b) _ (ix b)).toInt
      rw [upd_eq rfl, upd_eq rfl]
      exact hle

theorem vx_tell {k : KK} {X : X6} (h : VXX k X) {b g : Nat} {d : Int32} (hd : bt d 0 3) : VXX k (tell X b g d) := by
  unfold tell
  by_cases z : ¬ xGr X g ≤ 0
  · rw [if_pos z]
    refine ⟨h.1, fun i hi => ⟨?_, (h.2 i hi).2⟩⟩
    by_cases e : i = g
    · show bt (upd (xSp X) g _ i) 0 3
      rw [upd_eq e]
      by_cases y : d = 0 ∧ ¬ xHo X b = 0 ∧ ¬ xHo X b = 4
      · rw [if_pos y]; exact ⟨by decide, by decide⟩
      · rw [if_neg y]; exact hd
    · show bt (upd (xSp X) g _ i) 0 3
      rw [upd_ne e]; exact (h.2 i hi).1
  · rw [if_neg z]; exact h
theorem bt_nI3 {d : Nat} (h : d < 4) : bt (nI d) 0 3 := by
  have e := nI_toInt (n := d) (by omega)
  exact ⟨by omega, by omega⟩
theorem vx_qst {k : KK} {X : X6} (hk : VKK k) (h : VXX k X) {b : Int32} (hb : ix b < ix (kNb k)) {h1 h2 D : Nat} (hD : D < 16) : VXX k (qst k X b h1 h2 D) := vx_tick hk (vx_tell (vx_tell h (bt_nI3 (by omega))) (bt_nI3 (by omega))) hb 1 0

def zr (r : Nat) : Nat := 256 * z2 (r / 256) + 16 * z2 (r / 16 % 16) + z2 (r % 16)
theorem z2_lt {D : Nat} (h : D < 16) : z2 D < 16 := by
  have h1 := z1_lt (d := D / 4) (by omega)
  have h2 := z1_lt (d := D % 4) (by omega)
  unfold z2
  omega
theorem dig_lt {r : Nat} (h : r < 4096) (t : Nat) : dig r t < 16 := by
  unfold dig
  split
  · omega
  · split <;> omega
theorem zr_dig {r : Nat} (h : r < 4096) (t : Nat) : dig (zr r) t = z2 (dig r t) := by
  have h1 := z2_lt (D := r / 256) (by omega)
  have h2 := z2_lt (D := r / 16 % 16) (by omega)
  have h3 := z2_lt (D := r % 16) (by omega)
  unfold dig zr
  split
  · omega
  · split <;> omega
theorem vx_qrn {k : KK} {X : X6} (hk : VKK k) (h : VXX k X) {b : Int32} (hb : ix b < ix (kNb k)) {h1 h2 r : Nat} (hr : r < 4096) : ∀ t, VXX k (qrn k X b h1 h2 r t)
  | 0 => h
  | t + 1 => vx_qst hk (vx_qrn hk h hb hr t) hb (dig_lt hr _)
theorem zr_lt {r : Nat} (h : r < 4096) : zr r < 4096 := by
  have h1 := z2_lt (D := r / 256) (by omega)
  have h2 := z2_lt (D := r / 16 % 16) (by omega)
  have h3 := z2_lt (D := r % 16) (by omega)
  unfold zr
  omega
theorem dom_run {k : KK} {X : X6} (hk : VKK k) (hv : VXX k X) {b : Int32} (hb : ix b < ix (kNb k)) {h1 h2 r : Nat} (hh : h1 ≠ h2) (hr : r < 4096) (h0 : ¬ xHo X (ix b) = 0) (h4 : ¬ xHo X (ix b) = 4) : ∀ t, (∃ s, s < t ∧ xHo (qrn k X b h1 h2 (zr r) (s + 1)) (ix b) = 0) ∨ (qrn k X b h1 h2 (zr r) t = qrn k X b h1 h2 r t ∧ ¬ xHo (qrn k X b h1 h2 r t) (ix b) = 0 ∧ ¬ xHo (qrn k X b h1 h2 r t) (ix b) = 4) ∨ dmB (ix b) h1 h2 (qrn k X b h1 h2 (zr r) t) (qrn k X b h1 h2 r t)
  | 0 => Or.inr (Or.inl ⟨rfl, h0, h4⟩)
  | t + 1 => by
    rcases dom_run hk hv hb hh hr h0 h4 t with ⟨s, s1, s2⟩ | ⟨e1, e2, e3⟩ | e
    · exact Or.inl ⟨s, by omega, s2⟩
    · have e : qrn k X b h1 h2 (zr r) (t + 1) = qrn k X b h1 h2 r (t + 1) := by
        show qst k _ b h1 h2 _ = qst k _ b h1 h2 _
        rw [e1, zr_dig hr]
        unfold qst
        rw [tl2_z (dig_lt hr _) e2 e3]
      by_cases y0 : xHo (qrn k X b h1 h2 r (t + 1)) (ix b) = 0
      · exact Or.inl ⟨t, by omega, by rw [e]; exact y0⟩
      · by_cases y4 : xHo (qrn k X b h1 h2 r (t + 1)) (ix b) = 4
        · refine Or.inr (Or.inr ?_)
          rw [e]
          exact ⟨y4, y4, rfl, Int.le_refl _, fun _ _ _ => rfl⟩
        · exact Or.inr (Or.inl ⟨e, y0, y4⟩)
    · have := dom_B (D := dig r (t + 1)) hk (vx_qrn hk hv hb (zr_lt hr) t) (vx_qrn hk hv hb hr t) hb hh (dig_lt hr _) e
      rw [← zr_dig hr] at this
      rcases this with y | y
      · exact Or.inl ⟨t, by omega, y⟩
      · exact Or.inr (Or.inr y)

