theorem gr_up {x y : Int32} (h : x.toInt ≤ y.toInt) (hx : ¬ x ≤ 0) : ¬ y ≤ 0 := by
  rw [Int32.le_iff_toInt_le] at hx ⊢
  have h0 : (0 : Int32).toInt = 0 := rfl
  omega
theorem chill_i {k : KK} {Z : X6} {b : Int32} (hk : VKK k) {g : Nat} (hg : g < ix (kNh k)) (e1 : bt (xGr Z g) 0 1000) : (xGr (aChill k Z b) g).toInt = if kBo k g = b ∧ (¬ xSp Z g = 0 ∨ xHo Z (ix b) = 4) then max 0 ((xGr Z g).toInt - (aCold k g).toInt) else (xGr Z g).toInt := by
  have e2 := cold_b hk hg
  have e3 := i_sub e1 e2 (by omega) (by omega)
  have h0 : (0 : Int32).toInt = 0 := rfl
  show (mapF (xGr Z) (fun h => if kBo k h = b ∧ (¬ xSp Z h = 0 ∨ xHo Z (ix b) = 4) then (if 0 < xGr Z h - aCold k h then xGr Z h - aCold k h else 0) else xGr Z h) (ix (kNh k)) g).toInt = _
  unfold mapF
  rw [if_pos hg]
  show (if kBo k g = b ∧ (¬ xSp Z g = 0 ∨ xHo Z (ix b) = 4) then (if 0 < xGr Z g - aCold k g then xGr Z g - aCold k g else 0) else xGr Z g).toInt = _
  by_cases q : kBo k g = b ∧ (¬ xSp Z g = 0 ∨ xHo Z (ix b) = 4)
  · rw [if_pos q, if_pos q]
    by_cases z : 0 < xGr Z g - aCold k g
    · rw [if_pos z, e3]
      rw [Int32.lt_iff_toInt_lt, e3, h0] at z
      omega
    · rw [if_neg z, h0]
      rw [Int32.lt_iff_toInt_lt, e3, h0] at z
      omega
  · rw [if_neg q, if_neg q]
theorem chill_le {k : KK} {Z : X6} {b : Int32} (hk : VKK k) {g : Nat} (hg : g < ix (kNh k)) (e1 : bt (xGr Z g) 0 1000) : (xGr (aChill k Z b) g).toInt ≤ (xGr Z g).toInt := by
  rw [chill_i hk hg e1]
  have e2 := (cold_b hk hg).1
  have e3 := e1.1
  split <;> omega
theorem chill_4 {k : KK} {Z : X6} {b : Int32} (hk : VKK k) {g : Nat} (hg : g < ix (kNh k)) (e1 : bt (xGr Z g) 0 1000) (h4 : xHo Z (ix b) = 4) : (xGr (aChill k Z b) g).toInt = if kBo k g = b then max 0 ((xGr Z g).toInt - (aCold k g).toInt) else (xGr Z g).toInt := by
  rw [chill_i hk hg e1]
  by_cases z : kBo k g = b
  · rw [if_pos z, if_pos ⟨z, Or.inr h4⟩]
  · rw [if_neg z, if_neg (fun y => z y.1)]
/-- she is over, nobody is stronger than at the beginning, the others lie where they lay -/
def OV (k : KK) (X0 Y : X6) (b h1 h2 : Nat) : Prop := (∃ c : Nat, (1 ≤ c ∧ c ≤ 3) ∧ xHo Y b = nI c) ∧ (∀ g, g < ix (kNh k) → (xGr Y g).toInt ≤ (xGr X0 g).toInt) ∧ (∀ g, g ≠ h1 → g ≠ h2 → xSp Y g = xSp X0 g)
theorem nz_c {c : Nat} (h : 1 ≤ c ∧ c ≤ 3) : ¬ nI c = 0 ∧ ¬ nI c = 4 := by
  rcases (by omega : c = 1 ∨ c = 2 ∨ c = 3) with y | y | y <;> subst y <;> decide
theorem ov_nz {k : KK} {X0 Y : X6} {b h1 h2 : Nat} (h : OV k X0 Y b h1 h2) : ¬ xHo Y b = 0 ∧ ¬ xHo Y b = 4 := by
  obtain ⟨⟨c, hc, e⟩, _⟩ := h
  rw [e]; exact nz_c hc
theorem vx_tl2 {k : KK} {X : X6} (h : VXX k X) {b h1 h2 D : Nat} (hD : D < 16) : VXX k (tl2 X b h1 h2 D) := vx_tell (vx_tell h (bt_nI3 (by omega))) (bt_nI3 (by omega))
/-- a step in which she stays over -/
theorem ov_z {k : KK} {X0 Y Z : X6} {b : Int32} {h1 h2 D c : Nat} (hk : VKK k) (hv : VXX k Y) (hD : D < 16) (h : OV k X0 Y (ix b) h1 h2) (e : (aT1 k (tl2 Y (ix b) h1 h2 D) b 1 0).1 = Z) (e1 : xSp Z = xSp (tl2 Y (ix b) h1 h2 D)) (e2 : xGr Z = xGr (tl2 Y (ix b) h1 h2 D)) (hc : 1 ≤ c ∧ c ≤ 3) (e3 : xHo Z (ix b) = nI c) : OV k X0 (qst k Y b h1 h2 D) (ix b) h1 h2 := by
  obtain ⟨_, hg, hs⟩ := h
  obtain ⟨s1, s2, s3, s4⟩ := tl2_S Y (ix b) h1 h2 D
  have eq : qst k Y b h1 h2 D = aChill k Z b := by
    show aChill k (aT1 k (tl2 Y (ix b) h1 h2 D) b 1 0).1 b = _
    rw [e]
  have eg : xGr Z = xGr Y := e2.trans s4
  rw [eq]
  refine ⟨⟨c, hc, e3⟩, fun g hgg => ?_, fun g g1 g2 => ?_⟩
  · have q1 := chill_le (Z := Z) (b := b) hk hgg (by rw [eg]; exact (hv.2 g hgg).2)
    rw [eg] at q1
    exact Int.le_trans q1 (hg g hgg)
  · show xSp Z g = _
    rw [e1, tl2_o g1 g2]; exact hs g g1 g2
theorem ov_go {k : KK} {X0 Y : X6} {b : Int32} {h1 h2 D : Nat} (hk : VKK k) (hv : VXX k Y) (hb : ix b < ix (kNb k)) (hD : D < 16) (h : OV k X0 Y (ix b) h1 h2) (hlt : nL k (tl2 Y (ix b) h1 h2 D) b < nN k (tl2 Y (ix b) h1 h2 D) b) : OV k X0 (qst k Y b h1 h2 D) (ix b) h1 h2 ∧ ix (xMa Y (ix b)) ≤ ix (xMa (qst k Y b h1 h2 D) (ix b)) := by
  obtain ⟨c, hc, hho⟩ := h.1
  obtain ⟨s1, s2, s3, s4⟩ := tl2_S Y (ix b) h1 h2 D
  have hHo : xHo (tl2 Y (ix b) h1 h2 D) (ix b) = nI c := by
    show (tl2 Y (ix b) h1 h2 D).1 (ix b) = nI c
    rw [s1]; exact hho
  have hl2 : nL k (tl2 Y (ix b) h1 h2 D) b < c * nN k (tl2 Y (ix b) h1 h2 D) b := by
    have := Nat.mul_le_mul_right (nN k (tl2 Y (ix b) h1 h2 D) b) hc.1
    omega
  obtain ⟨Z, c', a1, a2, a3, a4, a5, a6, a7, a8⟩ := t1_c hk (vx_tl2 hv hD) hb hc hHo hl2
  refine ⟨ov_z hk hv hD h a1 a2 a3 ⟨by omega, a6⟩ a7, ?_⟩
  have eq : qst k Y b h1 h2 D = aChill k Z b := by
    show aChill k (aT1 k (tl2 Y (ix b) h1 h2 D) b 1 0).1 b = _
    rw [a1]
  have em : xMa (tl2 Y (ix b) h1 h2 D) = xMa Y := s2
  rw [em] at a8
  rw [eq]
  exact a8
/-- a step: she comes up, or stays over -/
theorem ov_any {k : KK} {X0 Y : X6} {b : Int32} {h1 h2 D : Nat} (hk : VKK k) (hv : VXX k Y) (hb : ix b < ix (kNb k)) (hD : D < 16) (h : OV k X0 Y (ix b) h1 h2) : (xHo Y (ix b) = 1 ∧ nN k (tl2 Y (ix b) h1 h2 D) b ≤ nL k (tl2 Y (ix b) h1 h2 D) b) ∨ OV k X0 (qst k Y b h1 h2 D) (ix b) h1 h2 := by
  obtain ⟨c, hc, hho⟩ := h.1
  obtain ⟨s1, s2, s3, s4⟩ := tl2_S Y (ix b) h1 h2 D
  have hHo : xHo (tl2 Y (ix b) h1 h2 D) (ix b) = nI c := by
    show (tl2 Y (ix b) h1 h2 D).1 (ix b) = nI c
    rw [s1]; exact hho
  by_cases hlt : nL k (tl2 Y (ix b) h1 h2 D) b < nN k (tl2 Y (ix b) h1 h2 D) b
  · exact Or.inr (ov_go hk hv hb hD h hlt).1
  · rcases (by omega : c = 1 ∨ c = 2 ∨ c = 3) with e | e | e
    · subst e
      exact Or.inl ⟨hho, by omega⟩
    · subst e
      refine Or.inr ?_
      generalize hT : tl2 Y (ix b) h1 h2 D = T at *
      by_cases l : aLever k T b < 2 * aNeed k T b
      · have e : (aT1 k T b 1 0).1 = T := by
          unfold aT1
          rw [if_neg (c := xHo T (ix b) = 1) (by rw [hHo]; decide), if_pos (c := xHo T (ix b) = 2) hHo, if_pos (c := aLever k T b < 2 * aNeed k T b) l]
        exact ov_z (c := 2) (Z := T) hk hv hD h (by rw [hT]; exact e) (by rw [hT]) (by rw [hT]) (by omega) hHo
      · have e : (aT1 k T b 1 0).1 = (upd T.1 (ix b) 1, upd T.2.1 (ix b) 50, T.2.2.1, upd T.2.2.2.1 (ix b) (T.2.2.2.1 (ix b) + 1), T.2.2.2.2) := by
          unfold aT1
          rw [if_neg (c := xHo T (ix b) = 1) (by rw [hHo]; decide), if_pos (c := xHo T (ix b) = 2) hHo, if_neg (c := aLever k T b < 2 * aNeed k T b) l]
        exact ov_z (c := 1) (Z := (upd T.1 (ix b) 1, upd T.2.1 (ix b) 50, T.2.2.1, upd T.2.2.2.1 (ix b) (T.2.2.2.1 (ix b) + 1), T.2.2.2.2)) hk hv hD h (by rw [hT]; exact e) (by rw [hT]) (by rw [hT]) (by omega) (upd_eq rfl)
    · subst e
      refine Or.inr ?_
      generalize hT : tl2 Y (ix b) h1 h2 D = T at *
      have e : (aT1 k T b 1 0).1 = (upd T.1 (ix b) (if aLever k T b < 3 * aNeed k T b then 3 else 2), T.2) := by
        unfold aT1
        rw [if_neg (c := xHo T (ix b) = 1) (by rw [hHo]; decide), if_neg (c := xHo T (ix b) = 2) (by rw [hHo]; decide), if_pos (c := xHo T (ix b) = 3) hHo]
      by_cases l : aLever k T b < 3 * aNeed k T b
      · rw [if_pos l] at e
        exact ov_z (c := 3) (Z := (upd T.1 (ix b) 3, T.2)) hk hv hD h (by rw [hT]; exact e) (by rw [hT]) (by rw [hT]) (by omega) (upd_eq rfl)
      · rw [if_neg l] at e
        exact ov_z (c := 2) (Z := (upd T.1 (ix b) 2, T.2)) hk hv hD h (by rw [hT]; exact e) (by rw [hT]) (by rw [hT]) (by omega) (upd_eq rfl)
/-- these places bring her up from the beginning -/
abbrev gdQ (k : KK) (X0 : X6) (b : Int32) (h1 h2 D : Nat) : Prop := nN k (tl2 X0 (ix b) h1 h2 D) b ≤ nL k (tl2 X0 (ix b) h1 h2 D) b
theorem good_in {k : KK} {X0 Y : X6} {b : Int32} {h1 h2 D : Nat} (hh : h1 ≠ h2) (h0 : xHo X0 (ix b) = 1) (h : OV k X0 Y (ix b) h1 h2) (hm : ix (xMa X0 (ix b)) ≤ ix (xMa Y (ix b))) (hgo : nN k (tl2 Y (ix b) h1 h2 D) b ≤ nL k (tl2 Y (ix b) h1 h2 D) b) : gdQ k X0 b h1 h2 D := by
  obtain ⟨nY0, nY4⟩ := ov_nz h
  obtain ⟨_, hg, hs⟩ := h
  have nX0 : ¬ xHo X0 (ix b) = 0 := by rw [h0]; decide
  have nX4 : ¬ xHo X0 (ix b) = 4 := by rw [h0]; decide
  obtain ⟨s1, s2, s3, s4⟩ := tl2_S Y (ix b) h1 h2 D
  obtain ⟨t1, t2, t3, t4⟩ := tl2_S X0 (ix b) h1 h2 D
  have gY : xGr (tl2 Y (ix b) h1 h2 D) = xGr Y := s4
  have gX : xGr (tl2 X0 (ix b) h1 h2 D) = xGr X0 := t4
  have sp : ∀ g, g < ix (kNh k) → ¬ xGr Y g ≤ 0 → xSp (tl2 Y (ix b) h1 h2 D) g = xSp (tl2 X0 (ix b) h1 h2 D) g := by
    intro g hgg z
    have z' := gr_up (hg g hgg) z
    by_cases e1 : g = h1
    · subst e1
      rw [tl2_1 hh z, tl2_1 hh z']
      simp only [nY0, nY4, nX0, nX4]
    · by_cases e2 : g = h2
      · subst e2
        rw [tl2_2 z, tl2_2 z']
        simp only [nY0, nY4, nX0, nX4]
      · rw [tl2_o e1 e2, tl2_o e1 e2]; exact hs g e1 e2
  have q1 : nL k (tl2 Y (ix b) h1 h2 D) b ≤ nL k (tl2 X0 (ix b) h1 h2 D) b := by
    unfold nL
    refine Nat.div_le_div_right (Nat.mul_le_mul_right _ (wsm_mono (fun i hi q => ?_)))
    have y : ¬ xGr Y i ≤ 0 := by rw [← gY]; exact q.2.2
    exact ⟨q.1, by rw [← sp i hi y]; exact q.2.1, by rw [gX]; exact gr_up (hg i hi) y⟩
  have q2 : nN k (tl2 X0 (ix b) h1 h2 D) b ≤ nN k (tl2 Y (ix b) h1 h2 D) b := by
    unfold nN
    have hc : cnt (fun h => kBo k h = b ∧ xSp (tl2 Y (ix b) h1 h2 D) h = 3 ∧ ¬ xGr (tl2 Y (ix b) h1 h2 D) h ≤ 0) (ix (kNh k)) ≤ cnt (fun h => kBo k h = b ∧ xSp (tl2 X0 (ix b) h1 h2 D) h = 3 ∧ ¬ xGr (tl2 X0 (ix b) h1 h2 D) h ≤ 0) (ix (kNh k)) := cnt_mono (fun i hi q => by
      have y : ¬ xGr Y i ≤ 0 := by rw [← gY]; exact q.2.2
      exact ⟨q.1, by rw [← sp i hi y]; exact q.2.1, by rw [gX]; exact gr_up (hg i hi) y⟩)
    have m1 : xMa (tl2 X0 (ix b) h1 h2 D) = xMa X0 := t2
    have m2 : xMa (tl2 Y (ix b) h1 h2 D) = xMa Y := s2
    rw [m1, m2]
    by_cases z : cnt (fun h => kBo k h = b ∧ xSp (tl2 X0 (ix b) h1 h2 D) h = 3 ∧ ¬ xGr (tl2 X0 (ix b) h1 h2 D) h ≤ 0) (ix (kNh k)) = 0
    · rw [if_pos z, if_pos (by omega)]; omega
    · rw [if_neg z]; omega
  show nN k (tl2 X0 (ix b) h1 h2 D) b ≤ nL k (tl2 X0 (ix b) h1 h2 D) b
  omega
/-- how she comes up -/
theorem up_t {k : KK} {Y : X6} {b : Int32} {h1 h2 D : Nat} (hk : VKK k) (hv : VXX k Y) (hb : ix b < ix (kNb k)) (hD : D < 16) (h1' : xHo Y (ix b) = 1) (hgo : nN k (tl2 Y (ix b) h1 h2 D) b ≤ nL k (tl2 Y (ix b) h1 h2 D) b) : qst k Y b h1 h2 D = aChill k (aUp1 k (tl2 Y (ix b) h1 h2 D) b) b := by
  obtain ⟨s1, s2, s3, s4⟩ := tl2_S Y (ix b) h1 h2 D
  have hHo : xHo (tl2 Y (ix b) h1 h2 D) (ix b) = 1 := by
    show (tl2 Y (ix b) h1 h2 D).1 (ix b) = 1
    rw [s1]; exact h1'
  have nl : ¬ aLever k (tl2 Y (ix b) h1 h2 D) b < aNeed k (tl2 Y (ix b) h1 h2 D) b := fun y => by
    have := (lt_1 hk (vx_tl2 hv hD) hb).mp y
    omega
  show aChill k (aT1 k (tl2 Y (ix b) h1 h2 D) b 1 0).1 b = _
  unfold aT1 aUp
  rw [if_pos (c := xHo (tl2 Y (ix b) h1 h2 D) (ix b) = 1) hHo, if_neg nl, if_neg one_ne]
theorem ng_t {k : KK} {Y : X6} {b : Int32} {h1 h2 D : Nat} (hk : VKK k) (hv : VXX k Y) (hb : ix b < ix (kNb k)) (hD : D < 16) (h1' : xHo Y (ix b) = 1) (hgo : ¬ nN k (tl2 Y (ix b) h1 h2 D) b ≤ nL k (tl2 Y (ix b) h1 h2 D) b) : ¬ xHo (qst k Y b h1 h2 D) (ix b) = 0 ∧ ¬ xHo (qst k Y b h1 h2 D) (ix b) = 4 := by
  have h : OV k Y Y (ix b) h1 h2 := ⟨⟨1, by omega, h1'⟩, fun _ _ => Int.le_refl _, fun _ _ _ => rfl⟩
  exact ov_nz (ov_go hk hv hb hD h (by omega)).1
def dF (k : KK) (b h1 h2 : Nat) (X' X : X6) : Prop := xHo X' b = 4 ∧ xHo X b = 4 ∧ (∀ g, g < ix (kNh k) → (xGr X g).toInt ≤ (xGr X' g).toInt) ∧ (xWa X' b).toInt ≤ (xWa X b).toInt ∧ ∀ g, g ≠ h1 → g ≠ h2 → xSp X' g = xSp X g
theorem up_dom {k : KK} {X0 Y : X6} {b : Int32} {h1 h2 D D' : Nat} (hk : VKK k) (hv0 : VXX k X0) (hv : VXX k Y) (hb : ix b < ix (kNb k)) (hD : D < 16) (hD' : D' < 16) (h0 : xHo X0 (ix b) = 1) (h : OV k X0 Y (ix b) h1 h2) (hY : xHo Y (ix b) = 1) (hgo : nN k (tl2 Y (ix b) h1 h2 D) b ≤ nL k (tl2 Y (ix b) h1 h2 D) b) (hg0 : gdQ k X0 b h1 h2 D') : dF k (ix b) h1 h2 (qst k X0 b h1 h2 D') (qst k Y b h1 h2 D) := by
  rw [up_t hk hv0 hb hD' h0 hg0, up_t hk hv hb hD hY hgo]
  obtain ⟨_, hg, hs⟩ := h
  obtain ⟨s1, s2, s3, s4⟩ := tl2_S Y (ix b) h1 h2 D
  obtain ⟨t1, t2, t3, t4⟩ := tl2_S X0 (ix b) h1 h2 D'
  have gY : xGr (aUp1 k (tl2 Y (ix b) h1 h2 D) b) = xGr Y := s4
  have gX : xGr (aUp1 k (tl2 X0 (ix b) h1 h2 D') b) = xGr X0 := t4
  have u1 : xHo (aUp1 k (tl2 Y (ix b) h1 h2 D) b) (ix b) = 4 := upd_eq rfl
  have u2 : xHo (aUp1 k (tl2 X0 (ix b) h1 h2 D') b) (ix b) = 4 := upd_eq rfl
  have w1 : xWa (aUp1 k (tl2 Y (ix b) h1 h2 D) b) (ix b) = 70 - 6 * kAi k (ix b) := upd_eq rfl
  have w2 : xWa (aUp1 k (tl2 X0 (ix b) h1 h2 D') b) (ix b) = 70 - 6 * kAi k (ix b) := upd_eq rfl
  refine ⟨u2, u1, fun g hgg => ?_, ?_, fun g e1 e2 => ?_⟩
  · rw [chill_4 hk hgg (by rw [gY]; exact (hv.2 g hgg).2) u1, chill_4 hk hgg (by rw [gX]; exact (hv0.2 g hgg).2) u2, gY, gX]
    have := hg g hgg
    split <;> omega
  · show (xWa (aUp1 k (tl2 X0 (ix b) h1 h2 D') b) (ix b)).toInt ≤ (xWa (aUp1 k (tl2 Y (ix b) h1 h2 D) b) (ix b)).toInt
    rw [w1, w2]; exact Int.le_refl _
  · show mapF (xSp (tl2 X0 (ix b) h1 h2 D')) (fun h => if kBo k h = b ∧ xSp (tl2 X0 (ix b) h1 h2 D') h = 2 then 0 else xSp (tl2 X0 (ix b) h1 h2 D') h) (ix (kNh k)) g = mapF (xSp (tl2 Y (ix b) h1 h2 D)) (fun h => if kBo k h = b ∧ xSp (tl2 Y (ix b) h1 h2 D) h = 2 then 0 else xSp (tl2 Y (ix b) h1 h2 D) h) (ix (kNh k)) g
    have e : xSp (tl2 X0 (ix b) h1 h2 D') g = xSp (tl2 Y (ix b) h1 h2 D) g := by
      rw [tl2_o e1 e2, tl2_o e1 e2]; exact (hs g e1 e2).symm
    simp only [mapF, e]
theorem dF_go {k : KK} {X' X : X6} {b : Int32} {h1 h2 : Nat} (D : Nat) (hk : VKK k) (hv' : VXX k X') (hv : VXX k X) (hb : ix b < ix (kNb k)) (hh : h1 ≠ h2) (hh1 : h1 < ix (kNh k)) (hh2 : h2 < ix (kNh k)) (h : dF k (ix b) h1 h2 X' X) : xHo (qst k X' b h1 h2 0) (ix b) = 0 ∨ dF k (ix b) h1 h2 (qst k X' b h1 h2 0) (qst k X b h1 h2 D) := by
  obtain ⟨a1, a2, a3, a4, a5⟩ := h
  obtain ⟨s1, s2, s3, s4⟩ := tl2_S X' (ix b) h1 h2 0
  obtain ⟨t1, t2, t3, t4⟩ := tl2_S X (ix b) h1 h2 D
  have hn : ix (kNh k) ≤ 12 := (ix_b (n := 12) (by decide) hk.1.2.2.2.2).1
  have c1 : xHo (tl2 X' (ix b) h1 h2 0) (ix b) = 4 := by show (tl2 X' (ix b) h1 h2 0).1 (ix b) = 4; rw [s1]; exact a1
  have c2 : xHo (tl2 X (ix b) h1 h2 D) (ix b) = 4 := by show (tl2 X (ix b) h1 h2 D).1 (ix b) = 4; rw [t1]; exact a2
  have g1 : xGr (tl2 X' (ix b) h1 h2 0) = xGr X' := s4
  have g2 : xGr (tl2 X (ix b) h1 h2 D) = xGr X := t4
  have w1 : xWa (tl2 X' (ix b) h1 h2 0) = xWa X' := s3
  have w2 : xWa (tl2 X (ix b) h1 h2 D) = xWa X := t3
  have p0 : ∀ g, g ≠ h1 → g ≠ h2 → xSp (tl2 X' (ix b) h1 h2 0) g = xSp (tl2 X (ix b) h1 h2 D) g := fun g e1 e2 => by rw [tl2_o e1 e2, tl2_o e1 e2]; exact a5 g e1 e2
  have hi4' : ∀ d : Int32, (if d = 0 ∧ ¬ xHo X' (ix b) = 0 ∧ ¬ xHo X' (ix b) = 4 then (1 : Int32) else d) = d := fun d => if_neg (fun y => y.2.2 a1)
  have p1 : ∀ g, g < ix (kNh k) → ¬ xGr X g ≤ 0 → xSp (tl2 X (ix b) h1 h2 D) g = 0 → xSp (tl2 X' (ix b) h1 h2 0) g = 0 := by
    intro g hgg hg hs
    have hg' := gr_up (a3 g hgg) hg
    by_cases e1 : g = h1
    · subst e1
      rw [tl2_1 hh hg', hi4']
      rfl
    · by_cases e2 : g = h2
      · subst e2
        rw [tl2_2 hg', hi4']
        rfl
      · rw [p0 g e1 e2]; exact hs
  obtain ⟨a, a', l1, l2, l3, l4⟩ := abl_le (k := k) (b := b) (X' := tl2 X' (ix b) h1 h2 0) (X := tl2 X (ix b) h1 h2 D) (fun g hgg hg => by
    have y : ¬ xGr X g ≤ 0 := by rw [← g2]; exact hg.2.2
    exact ⟨hg.1, p1 g hgg y hg.2.1, by rw [g1]; exact gr_up (a3 g hgg) y⟩) hn
  have hA := (hk.2.1 (ix b) hb).2.2.1
  have b1 : (aBailW k (tl2 X' (ix b) h1 h2 0) b).toInt = _ := bailW_i (by rw [w1]; exact (hv'.1 (ix b) hb).2.2) l4 l2 hA
  have b2 : (aBailW k (tl2 X (ix b) h1 h2 D) b).toInt = _ := bailW_i (by rw [w2]; exact (hv.1 (ix b) hb).2.2) l3 (by omega) hA
  rw [w1] at b1
  rw [w2] at b2
  have hle : (aBailW k (tl2 X' (ix b) h1 h2 0) b).toInt ≤ (aBailW k (tl2 X (ix b) h1 h2 D) b).toInt := by rw [b1, b2]; omega
  unfold qst
  rw [tick_4 c1, tick_4 c2]
  generalize tl2 X' (ix b) h1 h2 0 = T' at *
  generalize tl2 X (ix b) h1 h2 D = T at *
  have q1 : aBail k T' b = (upd T'.1 (ix b) (if aBailW k T' b = 0 then 0 else 4), T'.2.1, upd T'.2.2.1 (ix b) (aBailW k T' b), T'.2.2.2) := if_pos c1
  have q2 : aBail k T b = (upd T.1 (ix b) (if aBailW k T b = 0 then 0 else 4), T.2.1, upd T.2.2.1 (ix b) (aBailW k T b), T.2.2.2) := if_pos c2
  by_cases z : aBailW k T' b = 0
  · refine Or.inl ?_
    rw [q1]
    show upd T'.1 (ix b) _ (ix b) = 0
    rw [upd_eq rfl, if_pos z]
  · have z2' : ¬ aBailW k T b = 0 := by
      intro y
      have h0 : (0 : Int32).toInt = 0 := rfl
      rw [y, h0] at hle
      apply z
      rw [← Int32.toInt_inj, h0]
      rw [b1] at hle ⊢
      omega
    rw [if_neg z] at q1
    rw [if_neg z2'] at q2
    have u1 : upd T'.1 (ix b) 4 (ix b) = 4 := upd_eq rfl
    have u2 : upd T.1 (ix b) 4 (ix b) = 4 := upd_eq rfl
    rw [q1, q2]
    refine Or.inr ⟨u1, u2, fun g hgg => ?_, ?_, p0⟩
    · have r1 := chill_4 (Z := (upd T'.1 (ix b) 4, T'.2.1, upd T'.2.2.1 (ix b) (aBailW k T' b), T'.2.2.2)) hk hgg (by show bt (xGr T' g) 0 1000; rw [g1]; exact (hv'.2 g hgg).2) u1
      have r2 := chill_4 (Z := (upd T.1 (ix b) 4, T.2.1, upd T.2.2.1 (ix b) (aBailW k T b), T.2.2.2)) hk hgg (by show bt (xGr T g) 0 1000; rw [g2]; exact (hv.2 g hgg).2) u2
      rw [r1, r2]
      show (if kBo k g = b then max 0 ((xGr T g).toInt - (aCold k g).toInt) else (xGr T g).toInt) ≤ (if kBo k g = b then max 0 ((xGr T' g).toInt - (aCold k g).toInt) else (xGr T' g).toInt)
      rw [g1, g2]
      have := a3 g hgg
      split <;> omega
    · show (upd T'.2.2.1 (ix b) _ (ix b)).toInt ≤ (upd T.2.2.1 (ix b) _ (ix b)).toInt
      rw [upd_eq rfl, upd_eq rfl]
      exact hle
/-- FULL: the next tick leaves her FULL, or UP -/
theorem st_04 {k : KK} {X : X6} {b : Int32} {h1 h2 D : Nat} (h4 : xHo X (ix b) = 4) : xHo (qst k X b h1 h2 D) (ix b) = 0 ∨ xHo (qst k X b h1 h2 D) (ix b) = 4 := by
  obtain ⟨t1, t2, t3, t4⟩ := tl2_S X (ix b) h1 h2 D
  have c2 : xHo (tl2 X (ix b) h1 h2 D) (ix b) = 4 := by show (tl2 X (ix b) h1 h2 D).1 (ix b) = 4; rw [t1]; exact h4
  unfold qst
  rw [tick_4 c2]
  generalize tl2 X (ix b) h1 h2 D = T at *
  have q2 : aBail k T b = (upd T.1 (ix b) (if aBailW k T b = 0 then 0 else 4), T.2.1, upd T.2.2.1 (ix b) (aBailW k T b), T.2.2.2) := if_pos c2
  rw [q2]
  show upd T.1 (ix b) _ (ix b) = 0 ∨ upd T.1 (ix b) _ (ix b) = 4
  rw [upd_eq rfl]
  by_cases z : aBailW k T b = 0
  · rw [if_pos z]; exact Or.inl rfl
  · rw [if_neg z]; exact Or.inr rfl
theorem dg0 (D : Nat) : dig (256 * D) 1 = D := by
  show 256 * D / 256 = D
  omega
theorem dg1 (D : Nat) {t : Nat} (h : 1 ≤ t) : dig (256 * D) (t + 1) = 0 := by
  unfold dig
  rw [if_neg (by omega)]
  split <;> omega
