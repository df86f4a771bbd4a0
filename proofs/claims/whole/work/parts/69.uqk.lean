theorem fi_le (p : Nat → Prop) [DecidablePred p] (n : Nat) : fi p n ≤ n := by
  rcases fi_spec p n with ⟨h, _⟩ | ⟨h, _⟩ <;> omega
theorem qtk_hit {k : KK} {X : X6} {b : Int32} {h1 h2 r s : Nat} (hs : s < 20) (h : xHo (qrn k X b h1 h2 r (s + 1)) (ix b) = 0) : qtk k X b h1 h2 r ≤ s + 1 := by
  unfold qtk
  rcases fi_spec (fun t => xHo (qrn k X b h1 h2 r (t + 1)) (ix b) = 0) 20 with ⟨_, q⟩ | ⟨_, _, q⟩
  · exact absurd h (q s hs)
  · rcases Nat.lt_or_ge s (fi (fun t => xHo (qrn k X b h1 h2 r (t + 1)) (ix b) = 0) 20) with z | z
    · exact absurd h (q s z)
    · omega
theorem qtk_21 (k : KK) (X : X6) (b : Int32) (h1 h2 r : Nat) : qtk k X b h1 h2 r ≤ 21 := by
  unfold qtk
  have := fi_le (fun t => xHo (qrn k X b h1 h2 r (t + 1)) (ix b) = 0) 20
  omega
theorem qtk_lt {k : KK} {X : X6} {b : Int32} {h1 h2 r : Nat} (h : qtk k X b h1 h2 r < 21) : ∃ s, s < 20 ∧ qtk k X b h1 h2 r = s + 1 ∧ xHo (qrn k X b h1 h2 r (s + 1)) (ix b) = 0 := by
  unfold qtk at h ⊢
  rcases fi_spec (fun t => xHo (qrn k X b h1 h2 r (t + 1)) (ix b) = 0) 20 with ⟨q, _⟩ | ⟨q1, q2, _⟩
  · omega
  · exact ⟨_, q1, rfl, q2⟩
theorem qtk_no {k : KK} {X : X6} {b : Int32} {h1 h2 r s : Nat} (hs : s + 1 < qtk k X b h1 h2 r) : ¬ xHo (qrn k X b h1 h2 r (s + 1)) (ix b) = 0 := by
  have h21 := qtk_21 k X b h1 h2 r
  intro h
  have := qtk_hit (by omega) h
  omega
theorem qtk_eq {k : KK} {X : X6} {b : Int32} {h1 h2 r s : Nat} (hs : s < 20) (h : xHo (qrn k X b h1 h2 r (s + 1)) (ix b) = 0) (hn : ∀ j, j < s → ¬ xHo (qrn k X b h1 h2 r (j + 1)) (ix b) = 0) : qtk k X b h1 h2 r = s + 1 := by
  unfold qtk
  rw [fi_hit hs h hn]
theorem qtk_none {k : KK} {X : X6} {b : Int32} {h1 h2 r : Nat} (hn : ∀ j, j < 20 → ¬ xHo (qrn k X b h1 h2 r (j + 1)) (ix b) = 0) : qtk k X b h1 h2 r = 21 := by
  unfold qtk
  rw [fi_none hn]
theorem zr_tk {k : KK} {X : X6} (hk : VKK k) (hv : VXX k X) {b : Int32} (hb : ix b < ix (kNb k)) {h1 h2 r : Nat} (hh : h1 ≠ h2) (hr : r < 4096) (h0 : ¬ xHo X (ix b) = 0) (h4 : ¬ xHo X (ix b) = 4) : qtk k X b h1 h2 (zr r) ≤ qtk k X b h1 h2 r := by
  have h21 := qtk_21 k X b h1 h2 (zr r)
  by_cases h : qtk k X b h1 h2 r < 21
  · obtain ⟨s, s1, s2, s3⟩ := qtk_lt h
    rcases dom_run hk hv hb hh hr h0 h4 (s + 1) with ⟨s', t1, t2⟩ | ⟨_, e, _⟩ | ⟨_, e, _⟩
    · have := qtk_hit (by omega) t2
      omega
    · exact absurd s3 e
    · rw [s3] at e
      exact absurd e (by decide)
  · omega
theorem z1_le (d : Nat) : z1 d ≤ d := by unfold z1; split <;> omega
theorem z2_le (D : Nat) : z2 D ≤ D := by
  have h1 := z1_le (D / 4)
  have h2 := z1_le (D % 4)
  unfold z2
  omega
theorem zr_le (r : Nat) : zr r ≤ r := by
  have h1 := z2_le (r / 256)
  have h2 := z2_le (r / 16 % 16)
  have h3 := z2_le (r % 16)
  unfold zr
  omega
/-- the best of the first rows -/
def bq (T : Nat → Nat) : Nat → Nat × Int32
  | 0 => (21, -1000000)
  | R + 1 => if T R < (bq T R).1 then (T R, nI (R / 256)) else bq T R
theorem bq_skip {T : Nat → Nat} {R : Nat} (h : (bq T R).1 ≤ T R) : bq T (R + 1) = bq T R := if_neg (by omega)
theorem bq_take {T : Nat → Nat} {R : Nat} (h : T R < (bq T R).1) : bq T (R + 1) = (T R, nI (R / 256)) := if_pos h
theorem bq_s (T : Nat → Nat) (R : Nat) : (bq T (R + 1)).1 ≤ T R ∧ (bq T (R + 1)).1 ≤ (bq T R).1 := by
  by_cases h : T R < (bq T R).1
  · rw [bq_take h]; exact ⟨Nat.le_refl _, Nat.le_of_lt h⟩
  · rw [bq_skip (by omega)]; exact ⟨by omega, Nat.le_refl _⟩
theorem bq_le (T : Nat → Nat) : ∀ R r, r < R → (bq T R).1 ≤ T r
  | 0, r, h => absurd h (by omega)
  | R + 1, r, h => by
    have hs := bq_s T R
    by_cases e : r = R
    · rw [e]; exact hs.1
    · have := bq_le T R r (by omega)
      omega
theorem bq_21 (T : Nat → Nat) : ∀ R, (bq T R).1 ≤ 21
  | 0 => Nat.le_refl _
  | R + 1 => by
    have hs := bq_s T R
    have := bq_21 T R
    omega
theorem qrn_c {k : KK} {X : X6} {b : Int32} {h1 h2 r r' : Nat} : ∀ t, (∀ s, s < t → dig r (s + 1) = dig r' (s + 1)) → qrn k X b h1 h2 r t = qrn k X b h1 h2 r' t
  | 0, _ => rfl
  | t + 1, h => by
    show qst k _ b h1 h2 _ = qst k _ b h1 h2 _
    rw [qrn_c t (fun s hs => h s (by omega)), h t (by omega)]
theorem dig_1 {r s : Nat} (h : s / 256 = r / 256) : ∀ t, t < 1 → dig s (t + 1) = dig r (t + 1) := fun t ht => by
  have e : t = 0 := by omega
  subst e
  exact h
theorem dig_2 {r s : Nat} (h : s / 16 = r / 16) : ∀ t, t < 2 → dig s (t + 1) = dig r (t + 1) := fun t ht => by
  rcases (by omega : t = 0 ∨ t = 1) with e | e
  · subst e
    show s / 256 = r / 256
    omega
  · subst e
    show s / 16 % 16 = r / 16 % 16
    omega
theorem dig_3 (r : Nat) {t : Nat} (h : 2 ≤ t) : dig r (t + 1) = r % 16 := by
  unfold dig
  rw [if_neg (by omega), if_neg (by omega)]

def qsi (X : X6) (d : Nat → Int32) : X6 := (X.1, X.2.1, X.2.2.1, d, X.2.2.2.2)
theorem tell_si (X : X6) (d : Nat → Int32) (b h : Nat) (e : Int32) : tell (qsi X d) b h e = qsi (tell X b h e) d := by
  unfold tell
  by_cases z : ¬ xGr X h ≤ 0
  · rw [if_pos z, if_pos (c := ¬ xGr (qsi X d) h ≤ 0) z]; rfl
  · rw [if_neg z, if_neg (c := ¬ xGr (qsi X d) h ≤ 0) z]
theorem tl2_si (X : X6) (d : Nat → Int32) (b h1 h2 D : Nat) : tl2 (qsi X d) b h1 h2 D = qsi (tl2 X b h1 h2 D) d := by
  unfold tl2
  rw [tell_si, tell_si]
theorem t1_si (k : KK) (X : X6) (d : Nat → Int32) (b : Int32) : ∃ d', (aT1 k (qsi X d) b 1 0).1 = qsi (aT1 k X b 1 0).1 d' := by
  unfold aT1 aUp aRide aBail
  have eL : aLever k (qsi X d) b = aLever k X b := rfl
  have eN : aNeed k (qsi X d) b = aNeed k X b := rfl
  have eH : xHo (qsi X d) = xHo X := rfl
  have eB : aBailW k (qsi X d) b = aBailW k X b := rfl
  simp only [eL, eN, eH, eB, if_neg one_ne]
  by_cases z1 : xHo X (ix b) = 1
  · simp only [if_pos z1]
    by_cases z2 : aLever k X b < aNeed k X b
    · simp only [if_pos z2]
      exact ⟨d, rfl⟩
    · simp only [if_neg z2]
      exact ⟨d, rfl⟩
  · simp only [if_neg z1]
    by_cases z2 : xHo X (ix b) = 2
    · simp only [if_pos z2]
      by_cases z3 : aLever k X b < 2 * aNeed k X b
      · simp only [if_pos z3]
        exact ⟨d, rfl⟩
      · simp only [if_neg z3]
        exact ⟨_, rfl⟩
    · simp only [if_neg z2]
      by_cases z3 : xHo X (ix b) = 3
      · simp only [if_pos z3]
        exact ⟨d, rfl⟩
      · simp only [if_neg z3]
        by_cases z4 : xHo X (ix b) = 4
        · simp only [if_pos z4]
          exact ⟨d, rfl⟩
        · simp only [if_neg z4]
          exact ⟨d, rfl⟩
theorem tick_si (k : KK) (X : X6) (d : Nat → Int32) (b : Int32) : ∃ d', (aTick k (qsi X d) b 1 0).1 = qsi (aTick k X b 1 0).1 d' := by
  obtain ⟨d', h⟩ := t1_si k X d b
  refine ⟨d', ?_⟩
  show aChill k (aT1 k (qsi X d) b 1 0).1 b = _
  rw [h]
  rfl
theorem qst_si (k : KK) (X : X6) (d : Nat → Int32) (b : Int32) (h1 h2 D : Nat) : ∃ d', qst k (qsi X d) b h1 h2 D = qsi (qst k X b h1 h2 D) d' := by
  unfold qst
  rw [tl2_si]
  exact tick_si _ _ _ _
def qfr (b : Nat) (X Y : X6) : Prop := (∀ i, i ≠ b → Y.1 i = X.1 i ∧ Y.2.1 i = X.2.1 i ∧ Y.2.2.1 i = X.2.2.1 i) ∧ ∀ i, 12 ≤ i → Y.2.2.2.2.1 i = X.2.2.2.2.1 i ∧ Y.2.2.2.2.2 i = X.2.2.2.2.2 i
theorem qfr_r (b : Nat) (X : X6) : qfr b X X := ⟨fun _ _ => ⟨rfl, rfl, rfl⟩, fun _ _ => ⟨rfl, rfl⟩⟩
theorem qfr_t {b : Nat} {X Y Z : X6} (h : qfr b X Y) (g : qfr b Y Z) : qfr b X Z := ⟨fun i hi => ⟨(g.1 i hi).1.trans (h.1 i hi).1, (g.1 i hi).2.1.trans (h.1 i hi).2.1, (g.1 i hi).2.2.trans (h.1 i hi).2.2⟩, fun i hi => ⟨(g.2 i hi).1.trans (h.2 i hi).1, (g.2 i hi).2.trans (h.2 i hi).2⟩⟩
theorem qfr_tell {b h : Nat} {X : X6} {e : Int32} (hh : h < 12) : qfr b X (tell X b h e) := by
  obtain ⟨a1, a2, a3, a4⟩ := tell_S X b h e
  refine ⟨fun i _ => ⟨by rw [a1], by rw [a2], by rw [a3]⟩, fun i hi => ⟨tell_o (by omega), by rw [a4]⟩⟩
theorem qfr_chill {k : KK} {X : X6} {b : Int32} (hn : ix (kNh k) ≤ 12) : qfr (ix b) X (aChill k X b) := ⟨fun _ _ => ⟨rfl, rfl, rfl⟩, fun i hi => ⟨rfl, if_neg (by omega)⟩⟩
theorem qfr_t1 {k : KK} {X : X6} {b : Int32} (hn : ix (kNh k) ≤ 12) : qfr (ix b) X (aT1 k X b 1 0).1 := by
  unfold aT1 aUp aRide aBail
  simp only [if_neg one_ne]
  by_cases z1 : xHo X (ix b) = 1
  · simp only [if_pos z1]
    by_cases z2 : aLever k X b < aNeed k X b
    · simp only [if_pos z2]
      refine ⟨fun i hi => ⟨?_, upd_ne hi, rfl⟩, fun i hi => ⟨rfl, rfl⟩⟩
      show (if aFillM k X b = 100 then upd X.1 (ix b) (if kMu k = 0 then 2 else 3) else X.1) i = X.1 i
      by_cases z : aFillM k X b = 100
      · rw [if_pos z]; exact upd_ne hi
      · rw [if_neg z]
    · simp only [if_neg z2]
      exact ⟨fun i hi => ⟨upd_ne hi, upd_ne hi, upd_ne hi⟩, fun i hi => ⟨if_neg (by omega), rfl⟩⟩
  · simp only [if_neg z1]
    by_cases z2 : xHo X (ix b) = 2
    · simp only [if_pos z2]
      by_cases z3 : aLever k X b < 2 * aNeed k X b
      · simp only [if_pos z3]
        exact qfr_r _ _
      · simp only [if_neg z3]
        exact ⟨fun i hi => ⟨upd_ne hi, upd_ne hi, rfl⟩, fun i hi => ⟨rfl, rfl⟩⟩
    · simp only [if_neg z2]
      by_cases z3 : xHo X (ix b) = 3
      · simp only [if_pos z3]
        exact ⟨fun i hi => ⟨upd_ne hi, rfl, rfl⟩, fun i hi => ⟨rfl, rfl⟩⟩
      · simp only [if_neg z3]
        by_cases z4 : xHo X (ix b) = 4
        · simp only [if_pos z4]
          exact ⟨fun i hi => ⟨upd_ne hi, rfl, upd_ne hi⟩, fun i hi => ⟨rfl, rfl⟩⟩
        · simp only [if_neg z4]
          exact qfr_r _ _
theorem qfr_qst {k : KK} {X : X6} {b : Int32} {h1 h2 D : Nat} (hn : ix (kNh k) ≤ 12) (hh1 : h1 < 12) (hh2 : h2 < 12) : qfr (ix b) X (qst k X b h1 h2 D) := qfr_t (qfr_t (qfr_t (qfr_tell hh1) (qfr_tell hh2)) (qfr_t1 hn)) (qfr_chill hn)
theorem qfr_qrn {k : KK} {X : X6} {b : Int32} {h1 h2 r : Nat} (hn : ix (kNh k) ≤ 12) (hh1 : h1 < 12) (hh2 : h2 < 12) : ∀ t, qfr (ix b) X (qrn k X b h1 h2 r t)
  | 0 => qfr_r _ _
  | t + 1 => qfr_t (qfr_qrn hn hh1 hh2 t) (qfr_qst hn hh1 hh2)

def wsm (k : KK) (p : Nat → Prop) [DecidablePred p] : Nat → Nat
  | 0 => 0
  | n + 1 => wsm k p n + (if p n then ix (kWe k n) else 0)
theorem wsm_mono {k : KK} {p q : Nat → Prop} [DecidablePred p] [DecidablePred q] : ∀ {n : Nat}, (∀ i, i < n → p i → q i) → wsm k p n ≤ wsm k q n
  | 0, _ => Nat.le_refl _
  | n + 1, h => by
    have := wsm_mono (k := k) (p := p) (q := q) (n := n) (fun i hi => h i (by omega))
    show wsm k p n + _ ≤ wsm k q n + _
    by_cases z : p n
    · rw [if_pos z, if_pos (h n (by omega) z)]; omega
    · rw [if_neg z]; omega
theorem wsm_e {k : KK} {p : Nat → Prop} [DecidablePred p] (hk : VKK k) : ∀ {n : Nat}, n ≤ ix (kNh k) → fd (fun h => if p h then kWe k h else 0) n = nI (wsm k p n) ∧ wsm k p n ≤ 150 * n
  | 0, _ => ⟨rfl, Nat.le_refl _⟩
  | n + 1, hn => by
    obtain ⟨e1, e2⟩ := wsm_e (p := p) hk (n := n) (by omega)
    obtain ⟨w1, w2⟩ := ix_b (n := 150) (by decide) (hk.2.2.1 n (by omega)).2.1
    show fd _ n + (if p n then kWe k n else 0) = nI (wsm k p n + (if p n then ix (kWe k n) else 0)) ∧ wsm k p n + (if p n then ix (kWe k n) else 0) ≤ 150 * (n + 1)
    rw [e1]
    by_cases z : p n
    · simp only [if_pos z]
      exact ⟨by rw [← nI_add, ← w2], by omega⟩
    · simp only [if_neg z]
      exact ⟨Int32.add_zero _, by omega⟩
def nL (k : KK) (X : X6) (b : Int32) : Nat := wsm k (fun h => kBo k h = b ∧ xSp X h = 2 ∧ ¬ xGr X h ≤ 0) (ix (kNh k)) * ix (kBe k (ix b)) / 10
def nN (k : KK) (X : X6) (b : Int32) : Nat := 10 * ix (kSa k (ix b)) + ix (xMa X (ix b)) + (if cnt (fun h => kBo k h = b ∧ xSp X h = 3 ∧ ¬ xGr X h ≤ 0) (ix (kNh k)) = 0 then 2 * ix (kWi k) else 0)
theorem nL_e {k : KK} {X : X6} {b : Int32} (hk : VKK k) (hb : ix b < ix (kNb k)) : aLever k X b = nI (nL k X b) ∧ nL k X b ≤ 5400 := by
  obtain ⟨e1, e2⟩ := wsm_e (p := fun h => kBo k h = b ∧ xSp X h = 2 ∧ ¬ xGr X h ≤ 0) hk (Nat.le_refl _)
  have hn : ix (kNh k) ≤ 12 := (ix_b (n := 12) (by decide) hk.1.2.2.2.2).1
  obtain ⟨w1, w2⟩ := ix_b (n := 30) (by decide) (hk.2.1 _ hb).1
  have hw : wsm k (fun h => kBo k h = b ∧ xSp X h = 2 ∧ ¬ xGr X h ≤ 0) (ix (kNh k)) ≤ 1800 := by omega
  have hm : wsm k (fun h => kBo k h = b ∧ xSp X h = 2 ∧ ¬ xGr X h ≤ 0) (ix (kNh k)) * ix (kBe k (ix b)) ≤ 1800 * 30 := Nat.mul_le_mul hw w1
  refine ⟨?_, ?_⟩
  · show aBoard k X b * kBe k (ix b) / 10 = _
    rw [show aBoard k X b = _ from e1, w2, pk_mul, show (10 : Int32) = nI 10 from rfl, pk_div (by omega) (by omega) (by omega)]
    rfl
  · unfold nL
    omega
theorem nN_e {k : KK} {X : X6} {b : Int32} (hk : VKK k) (hx : VXX k X) (hb : ix b < ix (kNb k)) : aNeed k X b = nI (nN k X b) ∧ nN k X b ≤ 480 := by
  have hn : ix (kNh k) ≤ 12 := (ix_b (n := 12) (by decide) hk.1.2.2.2.2).1
  obtain ⟨w1, w2⟩ := ix_b (n := 30) (by decide) (hk.2.1 _ hb).2.1
  obtain ⟨m1, m2⟩ := ix_b (n := 100) (by decide) (hx.1 _ hb).2.1
  obtain ⟨v1, v2⟩ := ix_b (n := 40) (by decide) hk.1.2.1
  have hc := cnt_le (fun h => kBo k h = b ∧ xSp X h = 3 ∧ ¬ xGr X h ≤ 0) (ix (kNh k))
  have hz : (aAble k X b 3 ≤ 0) ↔ cnt (fun h => kBo k h = b ∧ xSp X h = 3 ∧ ¬ xGr X h ≤ 0) (ix (kNh k)) = 0 := by
    rw [able_cnt, nI_z2 (by omega), nI_z (by omega)]
  refine ⟨?_, ?_⟩
  · unfold aNeed nN
    by_cases z : cnt (fun h => kBo k h = b ∧ xSp X h = 3 ∧ ¬ xGr X h ≤ 0) (ix (kNh k)) = 0
    · rw [if_pos z, if_pos (hz.mpr z)]
      conv => lhs; rw [w2, m2, v2]
      rw [show (10 : Int32) = nI 10 from rfl, show (2 : Int32) = nI 2 from rfl, pk_mul, pk_mul, nI_add, nI_add]
    · rw [if_neg z, if_neg (fun y => z (hz.mp y))]
      conv => lhs; rw [w2, m2]
      rw [show (10 : Int32) = nI 10 from rfl, show (0 : Int32) = nI 0 from rfl, pk_mul, nI_add, nI_add]
  · unfold nN
    split <;> omega
theorem nLN_mono {k : KK} {Y Y' : X6} {b : Int32} (hs : xSp Y' = xSp Y) (hg : ∀ g, ¬ xGr Y' g ≤ 0 → ¬ xGr Y g ≤ 0) (hm : ix (xMa Y (ix b)) ≤ ix (xMa Y' (ix b))) : nL k Y' b ≤ nL k Y b ∧ nN k Y b ≤ nN k Y' b := by
  refine ⟨?_, ?_⟩
  · unfold nL
    refine Nat.div_le_div_right (Nat.mul_le_mul_right _ (wsm_mono (fun i _ h => ?_)))
    rw [hs] at h
    exact ⟨h.1, h.2.1, hg i h.2.2⟩
  · unfold nN
    have hc : cnt (fun h => kBo k h = b ∧ xSp Y' h = 3 ∧ ¬ xGr Y' h ≤ 0) (ix (kNh k)) ≤ cnt (fun h => kBo k h = b ∧ xSp Y h = 3 ∧ ¬ xGr Y h ≤ 0) (ix (kNh k)) := cnt_mono (fun i _ h => by
      rw [hs] at h
      exact ⟨h.1, h.2.1, hg i h.2.2⟩)
    by_cases z : cnt (fun h => kBo k h = b ∧ xSp Y h = 3 ∧ ¬ xGr Y h ≤ 0) (ix (kNh k)) = 0
    · rw [if_pos z, if_pos (by omega)]; omega
    · rw [if_neg z]; omega
theorem tl2_1n {X : X6} {b h1 h2 D : Nat} (hh : h1 ≠ h2) (z : xGr X h1 ≤ 0) : xSp (tl2 X b h1 h2 D) h1 = xSp X h1 := by
  refine (tell_o hh).trans ?_
  unfold tell
  rw [if_neg (fun y => y z)]
theorem tl2_2n {X : X6} {b h1 h2 D : Nat} (hh : h1 ≠ h2) (z : xGr X h2 ≤ 0) : xSp (tl2 X b h1 h2 D) h2 = xSp X h2 := by
  obtain ⟨a1, a2, a3, a4⟩ := tell_S X b h1 (nI (D / 4))
  have e : xSp (tell X b h1 (nI (D / 4))) h2 = xSp X h2 := tell_o (Ne.symm hh)
  refine Eq.trans ?_ e
  show xSp (tell (tell X b h1 (nI (D / 4))) b h2 (nI (D % 4))) h2 = _
  have z' : xGr (tell X b h1 (nI (D / 4))) h2 ≤ 0 := by
    show (tell X b h1 (nI (D / 4))).2.2.2.2.2 h2 ≤ 0
    rw [a4]; exact z
  rw [show tell (tell X b h1 (nI (D / 4))) b h2 (nI (D % 4)) = tell X b h1 (nI (D / 4)) from if_neg (fun y => y z')]
theorem tl2_again {X X' : X6} {b h1 h2 D : Nat} (hh : h1 ≠ h2) (hs : xSp X' = xSp (tl2 X b h1 h2 D)) (hg : ∀ g, ¬ xGr X' g ≤ 0 → ¬ xGr X g ≤ 0) (hc : (¬ xHo X' b = 0 ∧ ¬ xHo X' b = 4) ↔ (¬ xHo X b = 0 ∧ ¬ xHo X b = 4)) : xSp (tl2 X' b h1 h2 D) = xSp (tl2 X b h1 h2 D) := by
  funext g
  by_cases e1 : g = h1
  · subst e1
    by_cases z : xGr X' g ≤ 0
    · rw [tl2_1n hh z, hs]
    · rw [tl2_1 hh z, tl2_1 hh (hg g z)]
      simp only [hc]
  · by_cases e2 : g = h2
    · subst e2
      by_cases z : xGr X' g ≤ 0
      · rw [tl2_2n hh z, hs]
      · rw [tl2_2 z, tl2_2 (hg g z)]
        simp only [hc]
    · rw [tl2_o e1 e2, hs]
theorem chill_g {k : KK} {Z : X6} {b : Int32} (hk : VKK k) (hz : VXX k Z) : ∀ g, ¬ xGr (aChill k Z b) g ≤ 0 → ¬ xGr Z g ≤ 0 := by
  intro g h
  by_cases hg : g < ix (kNh k)
  · have e1 := (hz.2 g hg).2
    have e2 := cold_b hk hg
    have e3 := i_sub e1 e2 (by omega) (by omega)
    intro y
    apply h
    show mapF (xGr Z) (fun h => if kBo k h = b ∧ (¬ xSp Z h = 0 ∨ xHo Z (ix b) = 4) then (if 0 < xGr Z h - aCold k h then xGr Z h - aCold k h else 0) else xGr Z h) (ix (kNh k)) g ≤ 0
    unfold mapF
    rw [if_pos hg]
    show (if kBo k g = b ∧ (¬ xSp Z g = 0 ∨ xHo Z (ix b) = 4) then (if 0 < xGr Z g - aCold k g then xGr Z g - aCold k g else 0) else xGr Z g) ≤ 0
    by_cases q : kBo k g = b ∧ (¬ xSp Z g = 0 ∨ xHo Z (ix b) = 4)
    · rw [if_pos q]
      have y2 : (xGr Z g).toInt ≤ 0 := Int32.le_iff_toInt_le.mp y
      have q2 : ¬ 0 < xGr Z g - aCold k g := by
        rw [Int32.lt_iff_toInt_lt, e3]
        show ¬ (0 : Int) < _
        have := e2.1
        omega
      rw [if_neg q2]
      exact Int32.le_refl _
    · rw [if_neg q]; exact y
  · intro y
    apply h
    show mapF (xGr Z) _ (ix (kNh k)) g ≤ 0
    unfold mapF
    rw [if_neg hg]; exact y
def qSK (k : KK) (X : X6) (b : Int32) (h1 h2 D : Nat) : Prop := (xHo X (ix b) = 4 ∧ cnt (fun h => kBo k h = b ∧ xSp (tl2 X (ix b) h1 h2 D) h = 0 ∧ ¬ xGr (tl2 X (ix b) h1 h2 D) h ≤ 0) (ix (kNh k)) = 0 ∧ (kAi k (ix b)).toInt = 0 ∧ 0 < (xWa X (ix b)).toInt) ∨ ∃ c : Nat, (1 ≤ c ∧ c ≤ 3) ∧ xHo X (ix b) = nI c ∧ nL k (tl2 X (ix b) h1 h2 D) b < c * nN k (tl2 X (ix b) h1 h2 D) b

theorem lt_c {k : KK} {Y : X6} {b : Int32} (hk : VKK k) (hy : VXX k Y) (hb : ix b < ix (kNb k)) {c : Nat} (hc : c ≤ 3) : (aLever k Y b < nI c * aNeed k Y b) ↔ nL k Y b < c * nN k Y b := by
  obtain ⟨l1, l2⟩ := nL_e (X := Y) hk hb
  obtain ⟨n1, n2⟩ := nN_e hk hy hb
  rw [l1, n1, pk_mul]
  have : c * nN k Y b ≤ 3 * 480 := Nat.mul_le_mul hc n2
  exact nI_ltI (by omega) (by omega)
theorem lt_1 {k : KK} {Y : X6} {b : Int32} (hk : VKK k) (hy : VXX k Y) (hb : ix b < ix (kNb k)) : (aLever k Y b < aNeed k Y b) ↔ nL k Y b < 1 * nN k Y b := by
  have h := lt_c hk hy hb (c := 1) (by omega)
  rw [show nI 1 = 1 from rfl, Int32.one_mul] at h
  exact h
theorem fill_ge {k : KK} {Y : X6} {b : Int32} (hk : VKK k) (hy : VXX k Y) (hb : ix b < ix (kNb k)) : ix (xMa Y (ix b)) ≤ ix (aFillM k Y b) := by
  have e1 := (hy.1 _ hb).2.1
  have e2 := (hk.2.1 _ hb).2.2.2
  have i3 := i_sub (b_add e1 (b_lit (a := 20) (l := 20) (u := 20) (by decide)) (by omega) (by omega)) e2 (by omega) (by omega)
  have i4 := i_add e1 (b_lit (a := 20) (l := 20) (u := 20) (by decide)) (by omega) (by omega)
  have h20 : (20 : Int32).toInt = 20 := rfl
  have h100 : (100 : Int32).toInt = 100 := rfl
  have a1 := e1.1; have a2 := e1.2; have b1 := e2.1; have b2 := e2.2
  show (xMa Y (ix b)).toInt.toNat ≤ (aFillM k Y b).toInt.toNat
  unfold aFillM
  by_cases z : xMa Y (ix b) + 20 - kFl k (ix b) < 100
  · rw [if_pos z]; omega
  · rw [if_neg z]; omega
theorem fill_h (k : KK) (Y : X6) (b : Int32) : xHo (aFill k Y b) (ix b) = (if aFillM k Y b = 100 then (if kMu k = 0 then 2 else 3) else xHo Y (ix b)) ∧ xMa (aFill k Y b) (ix b) = aFillM k Y b := by
  refine ⟨?_, upd_eq rfl⟩
  show (if aFillM k Y b = 100 then upd Y.1 (ix b) (if kMu k = 0 then 2 else 3) else Y.1) (ix b) = _
  by_cases z : aFillM k Y b = 100
  · rw [if_pos z, if_pos z]; exact upd_eq rfl
  · rw [if_neg z, if_neg z]
theorem t1_c {k : KK} {Y : X6} {b : Int32} {c : Nat} (hk : VKK k) (hy : VXX k Y) (hb : ix b < ix (kNb k)) (hc : 1 ≤ c ∧ c ≤ 3) (eho : xHo Y (ix b) = nI c) (hlt : nL k Y b < c * nN k Y b) : ∃ (Z : X6) (c' : Nat), (aT1 k Y b 1 0).1 = Z ∧ xSp Z = xSp Y ∧ xGr Z = xGr Y ∧ VXX k Z ∧ c ≤ c' ∧ c' ≤ 3 ∧ xHo Z (ix b) = nI c' ∧ ix (xMa Y (ix b)) ≤ ix (xMa Z (ix b)) := by
  rcases (by omega : c = 1 ∨ c = 2 ∨ c = 3) with e | e | e
  · subst e
    have l1 := (lt_1 hk hy hb).mpr hlt
    have e : (aT1 k Y b 1 0).1 = aFill k Y b := by
      unfold aT1
      rw [if_pos (c := xHo Y (ix b) = 1) eho, if_pos l1]
    obtain ⟨eh, em⟩ := fill_h k Y b
    have hm : ix (xMa Y (ix b)) ≤ ix (xMa (aFill k Y b) (ix b)) := by rw [em]; exact fill_ge hk hy hb
    by_cases z : aFillM k Y b = 100
    · rw [if_pos z] at eh
      by_cases y : kMu k = 0
      · rw [if_pos y] at eh
        exact ⟨_, 2, e, rfl, rfl, vx_fill hk hy hb, by omega, by omega, eh, hm⟩
      · rw [if_neg y] at eh
        exact ⟨_, 3, e, rfl, rfl, vx_fill hk hy hb, by omega, by omega, eh, hm⟩
    · rw [if_neg z] at eh
      exact ⟨_, 1, e, rfl, rfl, vx_fill hk hy hb, by omega, by omega, eh.trans eho, hm⟩
  · subst e
    have l1 := (lt_c hk hy hb (c := 2) (by omega)).mpr hlt
    have e : (aT1 k Y b 1 0).1 = Y := by
      unfold aT1
      rw [if_neg (c := xHo Y (ix b) = 1) (by rw [eho]; decide), if_pos (c := xHo Y (ix b) = 2) eho, if_pos (c := aLever k Y b < 2 * aNeed k Y b) l1]
    exact ⟨_, 2, e, rfl, rfl, hy, by omega, by omega, eho, Nat.le_refl _⟩
  · subst e
    have l1 := (lt_c hk hy hb (c := 3) (by omega)).mpr hlt
    have e : (aT1 k Y b 1 0).1 = (upd Y.1 (ix b) 3, Y.2) := by
      unfold aT1
      rw [if_neg (c := xHo Y (ix b) = 1) (by rw [eho]; decide), if_neg (c := xHo Y (ix b) = 2) (by rw [eho]; decide), if_pos (c := xHo Y (ix b) = 3) eho, if_pos (c := aLever k Y b < 3 * aNeed k Y b) l1]
    exact ⟨_, 3, e, rfl, rfl, vx_ho hy (b_lit (by decide)), by omega, by omega, upd_eq rfl, Nat.le_refl _⟩
/-- nobody gets stronger: a stuck boat stays stuck -/
theorem sk_go {k : KK} {X : X6} {b : Int32} {h1 h2 D : Nat} (hk : VKK k) (hv : VXX k X) (hb : ix b < ix (kNb k)) (hh : h1 ≠ h2) (hD : D < 16) (h : qSK k X b h1 h2 D) : ¬ xHo (qst k X b h1 h2 D) (ix b) = 0 ∧ qSK k (qst k X b h1 h2 D) b h1 h2 D := by
  obtain ⟨s1, s2, s3, s4⟩ := tl2_S X (ix b) h1 h2 D
  have hy : VXX k (tl2 X (ix b) h1 h2 D) := vx_tell (vx_tell hv (bt_nI3 (by omega))) (bt_nI3 (by omega))
  have hg0 : ∀ g, ¬ xGr (tl2 X (ix b) h1 h2 D) g ≤ 0 → ¬ xGr X g ≤ 0 := fun g => by
    show ¬ (tl2 X (ix b) h1 h2 D).2.2.2.2.2 g ≤ 0 → _
    rw [s4]; exact id
  have hHo : xHo (tl2 X (ix b) h1 h2 D) = xHo X := s1
  have hMa : xMa (tl2 X (ix b) h1 h2 D) = xMa X := s2
  have hWa : xWa (tl2 X (ix b) h1 h2 D) = xWa X := s3
  -- the state behind, by what the first half of a tick does
  have key : ∀ Z : X6, (aT1 k (tl2 X (ix b) h1 h2 D) b 1 0).1 = Z → xSp Z = xSp (tl2 X (ix b) h1 h2 D) → xGr Z = xGr (tl2 X (ix b) h1 h2 D) → VXX k Z → ((¬ xHo Z (ix b) = 0 ∧ ¬ xHo Z (ix b) = 4) ↔ (¬ xHo X (ix b) = 0 ∧ ¬ xHo X (ix b) = 4)) → xHo (qst k X b h1 h2 D) = xHo Z ∧ xMa (tl2 (qst k X b h1 h2 D) (ix b) h1 h2 D) = xMa Z ∧ xWa (qst k X b h1 h2 D) = xWa Z ∧ xSp (tl2 (qst k X b h1 h2 D) (ix b) h1 h2 D) = xSp (tl2 X (ix b) h1 h2 D) ∧ ∀ g, ¬ xGr (tl2 (qst k X b h1 h2 D) (ix b) h1 h2 D) g ≤ 0 → ¬ xGr (tl2 X (ix b) h1 h2 D) g ≤ 0 := by
    intro Z e z1 z2 z3 z4
    have eq : qst k X b h1 h2 D = aChill k Z b := by
      show aChill k (aT1 k (tl2 X (ix b) h1 h2 D) b 1 0).1 b = _
      rw [e]
    have hgg : ∀ g, ¬ xGr (aChill k Z b) g ≤ 0 → ¬ xGr (tl2 X (ix b) h1 h2 D) g ≤ 0 := fun g hg => by
      rw [← z2]; exact chill_g hk z3 g hg
    rw [eq]
    obtain ⟨u1, u2, u3, u4⟩ := tl2_S (aChill k Z b) (ix b) h1 h2 D
    refine ⟨rfl, u2, rfl, tl2_again hh z1 (fun g hg => hg0 g (hgg g hg)) z4, fun g => ?_⟩
    show ¬ (tl2 (aChill k Z b) (ix b) h1 h2 D).2.2.2.2.2 g ≤ 0 → _
    rw [u4]
    exact hgg g
  rcases h with ⟨h4, hc, ha, hw⟩ | ⟨c, hc, hho, hlt⟩
  · have e4 : xHo (tl2 X (ix b) h1 h2 D) (ix b) = 4 := by rw [hHo]; exact h4
    have hn : ix (kNh k) ≤ 12 := (ix_b (n := 12) (by decide) hk.1.2.2.2.2).1
    have hbw : aBailW k (tl2 X (ix b) h1 h2 D) b = xWa X (ix b) := by
      have b1 : (aBailW k (tl2 X (ix b) h1 h2 D) b).toInt = _ := bailW_i (hy.1 (ix b) hb).2.2 (able_cnt _ _ _ _) (by rw [hc]; omega) (hk.2.1 (ix b) hb).2.2.1
      rw [hc, ha, hWa] at b1
      rw [← Int32.toInt_inj, b1]
      omega
    have hne : ¬ xWa X (ix b) = 0 := fun y => by
      rw [y] at hw
      exact absurd hw (by decide)
    have e : (aT1 k (tl2 X (ix b) h1 h2 D) b 1 0).1 = (upd (tl2 X (ix b) h1 h2 D).1 (ix b) 4, (tl2 X (ix b) h1 h2 D).2.1, upd (tl2 X (ix b) h1 h2 D).2.2.1 (ix b) (xWa X (ix b)), (tl2 X (ix b) h1 h2 D).2.2.2) := by
      have n1 : ¬ xHo (tl2 X (ix b) h1 h2 D) (ix b) = 1 := by rw [e4]; decide
      have n2 : ¬ xHo (tl2 X (ix b) h1 h2 D) (ix b) = 2 := by rw [e4]; decide
      have n3 : ¬ xHo (tl2 X (ix b) h1 h2 D) (ix b) = 3 := by rw [e4]; decide
      unfold aT1 aRide aBail
      simp only [if_neg n1, if_neg n2, if_neg n3, if_neg one_ne, if_pos e4, hbw, if_neg hne]
    obtain ⟨k1, k2, k3, k4, k5⟩ := key _ e rfl rfl (by rw [← e, aT1_eq, if_neg (by rw [e4]; decide), if_neg (by rw [e4]; exact fun y => y.elim (fun y => absurd y (by decide)) (fun y => absurd y (by decide)))]; exact vx_ride hk hy hb 1 0) (by
      rw [show xHo (upd (tl2 X (ix b) h1 h2 D).1 (ix b) 4, (tl2 X (ix b) h1 h2 D).2.1, upd (tl2 X (ix b) h1 h2 D).2.2.1 (ix b) (xWa X (ix b)), (tl2 X (ix b) h1 h2 D).2.2.2) (ix b) = 4 from upd_eq rfl, h4])
    have k1' : xHo (qst k X b h1 h2 D) (ix b) = 4 := by rw [k1]; exact upd_eq rfl
    have k3' : xWa (qst k X b h1 h2 D) (ix b) = xWa X (ix b) := by rw [k3]; exact upd_eq rfl
    refine ⟨by rw [k1']; decide, Or.inl ⟨k1', ?_, ha, by rw [k3']; exact hw⟩⟩
    refine Nat.le_zero.mp (Nat.le_trans (cnt_mono (fun i _ q => ?_)) (Nat.le_of_eq hc))
    rw [k4] at q
    exact ⟨q.1, q.2.1, k5 i q.2.2⟩
  · -- how the first half goes on
    have fin : ∀ (Z : X6) (c' : Nat), (aT1 k (tl2 X (ix b) h1 h2 D) b 1 0).1 = Z → xSp Z = xSp (tl2 X (ix b) h1 h2 D) → xGr Z = xGr (tl2 X (ix b) h1 h2 D) → VXX k Z → c ≤ c' → c' ≤ 3 → xHo Z (ix b) = nI c' → ix (xMa (tl2 X (ix b) h1 h2 D) (ix b)) ≤ ix (xMa Z (ix b)) → ¬ xHo (qst k X b h1 h2 D) (ix b) = 0 ∧ qSK k (qst k X b h1 h2 D) b h1 h2 D := by
      intro Z c' e z1 z2 z3 z4 z5 z6 z7
      have nz : ∀ q : Nat, 1 ≤ q → q ≤ 3 → ¬ nI q = 0 ∧ ¬ nI q = 4 := fun q q1 q2 => by
        rcases (by omega : q = 1 ∨ q = 2 ∨ q = 3) with y | y | y <;> subst y <;> decide
      obtain ⟨k1, k2, k3, k4, k5⟩ := key Z e z1 z2 z3 (by
        rw [z6, hho]
        exact ⟨fun _ => nz c hc.1 hc.2, fun _ => nz c' (by omega) z5⟩)
      obtain ⟨m1, m2⟩ := nLN_mono (k := k) (b := b) k4 k5 (by rw [k2]; exact z7)
      refine ⟨by rw [k1, z6]; exact (nz c' (by omega) z5).1, Or.inr ⟨c', ⟨by omega, z5⟩, by rw [k1, z6], ?_⟩⟩
      have q1 : c * nN k (tl2 X (ix b) h1 h2 D) b ≤ c' * nN k (tl2 (qst k X b h1 h2 D) (ix b) h1 h2 D) b := Nat.mul_le_mul z4 m2
      omega
    obtain ⟨Z, c', a1, a2, a3, a4, a5, a6, a7, a8⟩ := t1_c hk hy hb hc (by rw [hHo]; exact hho) hlt
    exact fin Z c' a1 a2 a3 a4 a5 a6 a7 a8
/-- what did not help now: stuck -/
theorem sk_in {k : KK} {X : X6} {b : Int32} {h1 h2 D : Nat} (hk : VKK k) (hv : VXX k X) (hb : ix b < ix (kNb k)) (hD : D < 16) (h0 : ¬ xHo X (ix b) = 0) (e1 : xHo (qst k X b h1 h2 D) (ix b) = xHo X (ix b)) (e2 : xWa (qst k X b h1 h2 D) (ix b) = xWa X (ix b)) : qSK k X b h1 h2 D := by
  obtain ⟨s1, s2, s3, s4⟩ := tl2_S X (ix b) h1 h2 D
  have hy : VXX k (tl2 X (ix b) h1 h2 D) := vx_tell (vx_tell hv (bt_nI3 (by omega))) (bt_nI3 (by omega))
  have hHo : xHo (tl2 X (ix b) h1 h2 D) = xHo X := s1
  have hWa : xWa (tl2 X (ix b) h1 h2 D) = xWa X := s3
  have e1 : xHo (aT1 k (tl2 X (ix b) h1 h2 D) b 1 0).1 (ix b) = xHo X (ix b) := e1
  have e2 : xWa (aT1 k (tl2 X (ix b) h1 h2 D) b 1 0).1 (ix b) = xWa X (ix b) := e2
  rcases how_5 (hv.1 _ hb).1 with y | y | y | y | y
  · exact absurd y h0
  · refine Or.inr ⟨1, by omega, y, ?_⟩
    refine (lt_1 hk hy hb).mp (Classical.not_not.mp fun z => ?_)
    unfold aT1 aUp at e1
    rw [if_pos (c := xHo (tl2 X (ix b) h1 h2 D) (ix b) = 1) (by rw [hHo]; exact y), if_neg z, if_neg one_ne, y] at e1
    rw [show xHo (aUp1 k (tl2 X (ix b) h1 h2 D) b, (0 : Int64)).1 (ix b) = 4 from upd_eq rfl] at e1
    exact absurd e1 (by decide)
  · refine Or.inr ⟨2, by omega, y, ?_⟩
    refine (lt_c hk hy hb (by omega)).mp (Classical.not_not.mp fun z => ?_)
    unfold aT1 at e1
    rw [if_neg (c := xHo (tl2 X (ix b) h1 h2 D) (ix b) = 1) (by rw [hHo, y]; decide), if_pos (c := xHo (tl2 X (ix b) h1 h2 D) (ix b) = 2) (by rw [hHo]; exact y), if_neg (c := aLever k (tl2 X (ix b) h1 h2 D) b < 2 * aNeed k (tl2 X (ix b) h1 h2 D) b) z, y] at e1
    have e1 : upd (tl2 X (ix b) h1 h2 D).1 (ix b) 1 (ix b) = 2 := e1
    rw [upd_eq rfl] at e1
    exact absurd e1 (by decide)
  · refine Or.inr ⟨3, by omega, y, ?_⟩
    refine (lt_c hk hy hb (by omega)).mp (Classical.not_not.mp fun z => ?_)
    unfold aT1 at e1
    rw [if_neg (c := xHo (tl2 X (ix b) h1 h2 D) (ix b) = 1) (by rw [hHo, y]; decide), if_neg (c := xHo (tl2 X (ix b) h1 h2 D) (ix b) = 2) (by rw [hHo, y]; decide), if_pos (c := xHo (tl2 X (ix b) h1 h2 D) (ix b) = 3) (by rw [hHo]; exact y), if_neg (c := aLever k (tl2 X (ix b) h1 h2 D) b < 3 * aNeed k (tl2 X (ix b) h1 h2 D) b) z, y] at e1
    have e1 : upd (tl2 X (ix b) h1 h2 D).1 (ix b) 2 (ix b) = 3 := e1
    rw [upd_eq rfl] at e1
    exact absurd e1 (by decide)
  · have e4 : xHo (tl2 X (ix b) h1 h2 D) (ix b) = 4 := by rw [hHo]; exact y
    have n1 : ¬ xHo (tl2 X (ix b) h1 h2 D) (ix b) = 1 := by rw [e4]; decide
    have n2 : ¬ xHo (tl2 X (ix b) h1 h2 D) (ix b) = 2 := by rw [e4]; decide
    have n3 : ¬ xHo (tl2 X (ix b) h1 h2 D) (ix b) = 3 := by rw [e4]; decide
    have hn : ix (kNh k) ≤ 12 := (ix_b (n := 12) (by decide) hk.1.2.2.2.2).1
    have hc := cnt_le (fun h => kBo k h = b ∧ xSp (tl2 X (ix b) h1 h2 D) h = 0 ∧ ¬ xGr (tl2 X (ix b) h1 h2 D) h ≤ 0) (ix (kNh k))
    have b1 : (aBailW k (tl2 X (ix b) h1 h2 D) b).toInt = _ := bailW_i (hy.1 (ix b) hb).2.2 (able_cnt _ _ _ _) (by omega) (hk.2.1 (ix b) hb).2.2.1
    have ha := (hk.2.1 (ix b) hb).2.2.1
    have hw := (hv.1 (ix b) hb).2.2
    rw [hWa] at b1
    unfold aT1 aRide aBail at e1 e2
    simp only [if_neg n1, if_neg n2, if_neg n3, if_neg one_ne, if_pos e4] at e1 e2
    have e1 : upd (tl2 X (ix b) h1 h2 D).1 (ix b) (if aBailW k (tl2 X (ix b) h1 h2 D) b = 0 then 0 else 4) (ix b) = xHo X (ix b) := e1
    have e2 : upd (tl2 X (ix b) h1 h2 D).2.2.1 (ix b) (aBailW k (tl2 X (ix b) h1 h2 D) b) (ix b) = xWa X (ix b) := e2
    rw [upd_eq rfl, y] at e1
    rw [upd_eq rfl] at e2
    rw [e2] at b1 e1
    have hne : ¬ xWa X (ix b) = 0 := fun z => by
      rw [if_pos z] at e1
      exact absurd e1 (by decide)
    have hne2 : ¬ (xWa X (ix b)).toInt = 0 := fun z => hne (by rw [← Int32.toInt_inj, z]; rfl)
    have w1 := hw.1
    have a1 := ha.1
    refine Or.inl ⟨y, ?_, ?_, ?_⟩ <;> omega
theorem sk_run {k : KK} {X : X6} {b : Int32} {h1 h2 r t : Nat} (hk : VKK k) (hv : VXX k X) (hb : ix b < ix (kNb k)) (hh : h1 ≠ h2) (hr : r < 4096) (ht : 2 ≤ t) (h : qSK k (qrn k X b h1 h2 r t) b h1 h2 (r % 16)) : ∀ n, ¬ xHo (qrn k X b h1 h2 r (t + n + 1)) (ix b) = 0 ∧ qSK k (qrn k X b h1 h2 r (t + n + 1)) b h1 h2 (r % 16)
  | 0 => by
    show ¬ xHo (qst k (qrn k X b h1 h2 r t) b h1 h2 (dig r (t + 1))) (ix b) = 0 ∧ qSK k (qst k (qrn k X b h1 h2 r t) b h1 h2 (dig r (t + 1))) b h1 h2 (r % 16)
    rw [dig_3 r ht]
    exact sk_go hk (vx_qrn hk hv hb hr t) hb hh (by omega) h
  | n + 1 => by
    have ih := (sk_run hk hv hb hh hr ht h n).2
    show ¬ xHo (qst k (qrn k X b h1 h2 r (t + n + 1)) b h1 h2 (dig r (t + n + 1 + 1))) (ix b) = 0 ∧ qSK k (qst k (qrn k X b h1 h2 r (t + n + 1)) b h1 h2 (dig r (t + n + 1 + 1))) b h1 h2 (r % 16)
    rw [dig_3 r (t := t + n + 1) (by omega)]
    exact sk_go hk (vx_qrn hk hv hb hr _) hb hh (by omega) ih
/-- the early stop: this row never comes up -/
theorem qtk_stop {k : KK} {X : X6} {b : Int32} {h1 h2 r t : Nat} (hk : VKK k) (hv : VXX k X) (hb : ix b < ix (kNb k)) (hh : h1 ≠ h2) (hr : r < 4096) (ht : 2 ≤ t) (h0 : ∀ j, j < t → ¬ xHo (qrn k X b h1 h2 r (j + 1)) (ix b) = 0) (e1 : xHo (qrn k X b h1 h2 r (t + 1)) (ix b) = xHo (qrn k X b h1 h2 r t) (ix b)) (e2 : xWa (qrn k X b h1 h2 r (t + 1)) (ix b) = xWa (qrn k X b h1 h2 r t) (ix b)) : qtk k X b h1 h2 r = 21 := by
  have hn : ¬ xHo (qrn k X b h1 h2 r t) (ix b) = 0 := by
    have := h0 (t - 1) (by omega)
    rw [show t - 1 + 1 = t by omega] at this
    exact this
  have hs : qSK k (qrn k X b h1 h2 r t) b h1 h2 (r % 16) := by
    have e : qrn k X b h1 h2 r (t + 1) = qst k (qrn k X b h1 h2 r t) b h1 h2 (r % 16) := by rw [← dig_3 r ht]; rfl
    rw [e] at e1 e2
    exact sk_in hk (vx_qrn hk hv hb hr t) hb (by omega) hn e1 e2
  refine qtk_none (fun j hj => ?_)
  rcases Nat.lt_or_ge j t with z | z
  · exact h0 j z
  · have := (sk_run hk hv hb hh hr ht hs (j - t)).1
    rw [show t + (j - t) + 1 = j + 1 by omega] at this
    exact this

