/-- a hand is told where to be -/
def tell (X : X6) (b h : Nat) (d : Int32) : X6 := if ¬ xGr X h ≤ 0 then (X.1, X.2.1, X.2.2.1, X.2.2.2.1, upd (xSp X) h (if d = 0 ∧ ¬ xHo X b = 0 ∧ ¬ xHo X b = 4 then 1 else d), X.2.2.2.2.2) else X
def tl2 (X : X6) (b h1 h2 D : Nat) : X6 := tell (tell X b h1 (nI (D / 4))) b h2 (nI (D % 4))
def qst (k : KK) (X : X6) (b : Int32) (h1 h2 D : Nat) : X6 := (aTick k (tl2 X (ix b) h1 h2 D) b 1 0).1
def dig (r t : Nat) : Nat := if t = 1 then r / 256 else if t = 2 then r / 16 % 16 else r % 16
def qrn (k : KK) (X : X6) (b : Int32) (h1 h2 r : Nat) : Nat → X6
  | 0 => X
  | t + 1 => qst k (qrn k X b h1 h2 r t) b h1 h2 (dig r (t + 1))
def qtk (k : KK) (X : X6) (b : Int32) (h1 h2 r : Nat) : Nat := fi (fun t => xHo (qrn k X b h1 h2 r (t + 1)) (ix b) = 0) 20 + 1
theorem one_ne : ¬ (1 : Int32) = 0 := by decide
theorem tick_x (k : KK) (X : X6) (b : Int32) (x : Int64) : aTick k X b 1 x = ((aTick k X b 1 0).1, x) := by
  unfold aTick aT1 aUp aRide
  simp only [one_ne, if_false]
  by_cases h1 : xHo X (ix b) = 1
  · simp only [if_pos h1]
    by_cases h2 : aLever k X b < aNeed k X b
    · simp only [if_pos h2]
    · simp only [if_neg h2]
  · simp only [if_neg h1]
    by_cases h2 : xHo X (ix b) = 2
    · simp only [if_pos h2]
      by_cases h3 : aLever k X b < 2 * aNeed k X b
      · simp only [if_pos h3]
      · simp only [if_neg h3]
    · simp only [if_neg h2]
      by_cases h3 : xHo X (ix b) = 3
      · simp only [if_pos h3]
      · simp only [if_neg h3]
theorem tell_S (X : X6) (b h : Nat) (d : Int32) : (tell X b h d).1 = X.1 ∧ (tell X b h d).2.1 = X.2.1 ∧ (tell X b h d).2.2.1 = X.2.2.1 ∧ (tell X b h d).2.2.2.2.2 = X.2.2.2.2.2 := by
  unfold tell
  by_cases z : ¬ xGr X h ≤ 0
  · simp only [if_pos z, and_self]
  · simp only [if_neg z, and_self]
theorem tell_o {X : X6} {b h g : Nat} {d : Int32} (e : g ≠ h) : xSp (tell X b h d) g = xSp X g := by
  unfold tell
  by_cases z : ¬ xGr X h ≤ 0
  · rw [if_pos z]; exact upd_ne e
  · rw [if_neg z]
theorem tell_at {X : X6} {b h : Nat} {d : Int32} (z : ¬ xGr X h ≤ 0) : xSp (tell X b h d) h = if d = 0 ∧ ¬ xHo X b = 0 ∧ ¬ xHo X b = 4 then 1 else d := by
  unfold tell
  rw [if_pos z]; exact upd_eq rfl
def z1 (d : Nat) : Nat := if d = 1 then 0 else d
def z2 (D : Nat) : Nat := 4 * z1 (D / 4) + z1 (D % 4)
theorem z1_lt {d : Nat} (h : d < 4) : z1 d < 4 := by unfold z1; split <;> omega
theorem z2_d {D : Nat} (h : D < 16) : z2 D / 4 = z1 (D / 4) ∧ z2 D % 4 = z1 (D % 4) := by
  have h1 := z1_lt (d := D / 4) (by omega)
  have h2 := z1_lt (d := D % 4) (by omega)
  unfold z2
  omega
theorem tell_z {X : X6} {b h d : Nat} (hd : d < 4) (h0 : ¬ xHo X b = 0) (h4 : ¬ xHo X b = 4) : tell X b h (nI (z1 d)) = tell X b h (nI d) := by
  unfold tell
  by_cases z : ¬ xGr X h ≤ 0
  · rw [if_pos z, if_pos z]
    by_cases e : d = 1
    · subst e
      have e1 : (if nI (z1 1) = 0 ∧ ¬ xHo X b = 0 ∧ ¬ xHo X b = 4 then (1 : Int32) else nI (z1 1)) = 1 := if_pos ⟨rfl, h0, h4⟩
      have e2 : (if nI 1 = 0 ∧ ¬ xHo X b = 0 ∧ ¬ xHo X b = 4 then (1 : Int32) else nI 1) = 1 := if_neg (fun y => absurd y.1 (by decide))
      rw [e1, e2]
    · rw [show z1 d = d from if_neg e]
  · rw [if_neg z, if_neg z]
theorem tl2_z {X : X6} {b h1 h2 D : Nat} (hD : D < 16) (h0 : ¬ xHo X b = 0) (h4 : ¬ xHo X b = 4) : tl2 X b h1 h2 (z2 D) = tl2 X b h1 h2 D := by
  obtain ⟨e1, e2⟩ := z2_d hD
  unfold tl2
  rw [e1, e2, tell_z (by omega) h0 h4]
  refine tell_z (by omega) ?_ ?_
  · show ¬ (tell X b h1 (nI (D / 4))).1 b = 0
    rw [(tell_S X b h1 _).1]; exact h0
  · show ¬ (tell X b h1 (nI (D / 4))).1 b = 4
    rw [(tell_S X b h1 _).1]; exact h4
theorem tl2_S (X : X6) (b h1 h2 D : Nat) : (tl2 X b h1 h2 D).1 = X.1 ∧ (tl2 X b h1 h2 D).2.1 = X.2.1 ∧ (tl2 X b h1 h2 D).2.2.1 = X.2.2.1 ∧ (tl2 X b h1 h2 D).2.2.2.2.2 = X.2.2.2.2.2 := by
  obtain ⟨a1, a2, a3, a4⟩ := tell_S X b h1 (nI (D / 4))
  obtain ⟨b1, b2, b3, b4⟩ := tell_S (tell X b h1 (nI (D / 4))) b h2 (nI (D % 4))
  exact ⟨b1.trans a1, b2.trans a2, b3.trans a3, b4.trans a4⟩
theorem tl2_o {X : X6} {b h1 h2 D g : Nat} (e1 : g ≠ h1) (e2 : g ≠ h2) : xSp (tl2 X b h1 h2 D) g = xSp X g := (tell_o e2).trans (tell_o e1)
theorem tl2_1 {X : X6} {b h1 h2 D : Nat} (hh : h1 ≠ h2) (z : ¬ xGr X h1 ≤ 0) : xSp (tl2 X b h1 h2 D) h1 = if nI (D / 4) = 0 ∧ ¬ xHo X b = 0 ∧ ¬ xHo X b = 4 then 1 else nI (D / 4) := (tell_o hh).trans (tell_at z)
theorem tl2_2 {X : X6} {b h1 h2 D : Nat} (z : ¬ xGr X h2 ≤ 0) : xSp (tl2 X b h1 h2 D) h2 = if nI (D % 4) = 0 ∧ ¬ xHo X b = 0 ∧ ¬ xHo X b = 4 then 1 else nI (D % 4) := by
  obtain ⟨a1, a2, a3, a4⟩ := tell_S X b h1 (nI (D / 4))
  unfold tl2
  rw [tell_at (by show ¬ (tell X b h1 (nI (D / 4))).2.2.2.2.2 h2 ≤ 0; rw [a4]; exact z)]
  show (if _ = 0 ∧ ¬ (tell X b h1 (nI (D / 4))).1 b = 0 ∧ ¬ (tell X b h1 (nI (D / 4))).1 b = 4 then _ else _) = _
  simp only [a1]

theorem tick_4 {k : KK} {X : X6} {b : Int32} (h : xHo X (ix b) = 4) (x : Int64) : (aTick k X b 1 x).1 = aChill k (aBail k X b) b := by
  unfold aTick aT1 aRide
  have n1 : ¬ xHo X (ix b) = 1 := by rw [h]; decide
  have n2 : ¬ xHo X (ix b) = 2 := by rw [h]; decide
  have n3 : ¬ xHo X (ix b) = 3 := by rw [h]; decide
  simp only [if_neg n1, if_neg n2, if_neg n3, if_neg one_ne]
theorem abl_le {k : KK} {X' X : X6} {b : Int32} (h : ∀ g, g < ix (kNh k) → kBo k g = b ∧ xSp X g = 0 ∧ ¬ xGr X g ≤ 0 → kBo k g = b ∧ xSp X' g = 0 ∧ ¬ xGr X' g ≤ 0) (hn : ix (kNh k) ≤ 12) : ∃ a a' : Nat, a ≤ a' ∧ a' ≤ 12 ∧ aAble k X b 0 = nI a ∧ aAble k X' b 0 = nI a' := by
  refine ⟨cnt (fun g => kBo k g = b ∧ xSp X g = 0 ∧ ¬ xGr X g ≤ 0) (ix (kNh k)), cnt (fun g => kBo k g = b ∧ xSp X' g = 0 ∧ ¬ xGr X' g ≤ 0) (ix (kNh k)), cnt_mono h, Nat.le_trans (cnt_le _ _) hn, fd_cnt _ _, fd_cnt _ _⟩

theorem bailW_i {w a r : Int32} {n : Nat} (hw : bt w 0 70) (ha : a = nI n) (hn : n ≤ 12) (hr : bt r 0 9) : (if 0 < w - 5 * a - r then w - 5 * a - r else 0).toInt = max 0 (w.toInt - 5 * (n : Int) - r.toInt) := by
  obtain ⟨w1, w2⟩ := hw
  obtain ⟨r1, r2⟩ := hr
  have e5 : (5 : Int32).toInt = 5 := rfl
  have e0 : (0 : Int32).toInt = 0 := rfl
  have ea : a.toInt = n := by rw [ha]; exact nI_toInt (by omega)
  have e : (w - 5 * a - r).toInt = w.toInt - 5 * (n : Int) - r.toInt := by
    simp (disch := omega) only [Int32.toInt_sub, Int32.toInt_mul, e5, ea, bm32]
  by_cases z : 0 < w - 5 * a - r
  · rw [if_pos z, e]
    rw [Int32.lt_iff_toInt_lt, e, e0] at z
    omega
  · rw [if_neg z, e0]
    rw [Int32.lt_iff_toInt_lt, e, e0] at z
    omega

