theorem dom2 {k : KK} {X0 : X6} {b : Int32} {h1 h2 r : Nat} (hk : VKK k) (hv : VXX k X0) (hb : ix b < ix (kNb k)) (hh : h1 ≠ h2) (hh1 : h1 < ix (kNh k)) (hh2 : h2 < ix (kNh k)) (h0 : xHo X0 (ix b) = 1) (hr : r < 4096) : ∀ t, (OV k X0 (qrn k X0 b h1 h2 r t) (ix b) h1 h2 ∧ ix (xMa X0 (ix b)) ≤ ix (xMa (qrn k X0 b h1 h2 r t) (ix b)) ∧ (t = 0 → xHo (qrn k X0 b h1 h2 r t) (ix b) = 1)) ∨ (2 ≤ t ∧ (∃ D, D < 16 ∧ gdQ k X0 b h1 h2 D) ∧ OV k X0 (qrn k X0 b h1 h2 r t) (ix b) h1 h2) ∨ (∃ D s n, D < 16 ∧ gdQ k X0 b h1 h2 D ∧ 1 ≤ s ∧ t = s + n ∧ (s = 1 → D = r / 256) ∧ ((∃ i, i < n + 1 ∧ xHo (qrn k X0 b h1 h2 (256 * D) (i + 1)) (ix b) = 0) ∨ dF k (ix b) h1 h2 (qrn k X0 b h1 h2 (256 * D) (n + 1)) (qrn k X0 b h1 h2 r t)))
  | 0 => Or.inl ⟨⟨⟨1, by omega, h0⟩, fun _ _ => Int.le_refl _, fun _ _ _ => rfl⟩, Nat.le_refl _, fun _ => h0⟩
  | t + 1 => by
    have hvt := vx_qrn hk hv hb hr (h1 := h1) (h2 := h2) t
    have hD := dig_lt hr (t + 1)
    have eD : t = 0 → dig r (t + 1) = r / 256 := fun e => by rw [e]; rfl
    have eq : qrn k X0 b h1 h2 r (t + 1) = qst k (qrn k X0 b h1 h2 r t) b h1 h2 (dig r (t + 1)) := rfl
    have up : ∀ D', D' < 16 → gdQ k X0 b h1 h2 D' → OV k X0 (qrn k X0 b h1 h2 r t) (ix b) h1 h2 → xHo (qrn k X0 b h1 h2 r t) (ix b) = 1 → nN k (tl2 (qrn k X0 b h1 h2 r t) (ix b) h1 h2 (dig r (t + 1))) b ≤ nL k (tl2 (qrn k X0 b h1 h2 r t) (ix b) h1 h2 (dig r (t + 1))) b → dF k (ix b) h1 h2 (qrn k X0 b h1 h2 (256 * D') (0 + 1)) (qrn k X0 b h1 h2 r (t + 1)) := fun D' d1 d2 d3 d4 d5 => by
      have e1 : qrn k X0 b h1 h2 (256 * D') (0 + 1) = qst k X0 b h1 h2 (dig (256 * D') 1) := rfl
      rw [e1, dg0, eq]
      exact up_dom hk hv hvt hb hD d1 h0 d3 d4 d5 d2
    rcases dom2 hk hv hb hh hh1 hh2 h0 hr t with ⟨a1, a2, a3⟩ | ⟨a1, ⟨D, a2, a3⟩, a4⟩ | ⟨D, s, n, a1, a2, a3, a4, a5, a6⟩
    · by_cases hlt : nL k (tl2 (qrn k X0 b h1 h2 r t) (ix b) h1 h2 (dig r (t + 1))) b < nN k (tl2 (qrn k X0 b h1 h2 r t) (ix b) h1 h2 (dig r (t + 1))) b
      · obtain ⟨c1, c2⟩ := ov_go hk hvt hb hD a1 hlt
        exact Or.inl ⟨c1, Nat.le_trans a2 c2, fun y => by omega⟩
      · have hgd := good_in (D := dig r (t + 1)) hh h0 a1 a2 (by omega)
        rcases ov_any (D := dig r (t + 1)) hk hvt hb hD a1 with ⟨c1, c2⟩ | c1
        · exact Or.inr (Or.inr ⟨dig r (t + 1), t + 1, 0, hD, hgd, by omega, by omega, fun y => eD (by omega), Or.inr (up _ hD hgd a1 c1 c2)⟩)
        · by_cases e : t = 0
          · exfalso
            have y1 := a3 e
            have y2 := up _ hD hgd a1 y1 (by omega)
            exact (ov_nz c1).2 y2.2.1
          · exact Or.inr (Or.inl ⟨by omega, ⟨_, hD, hgd⟩, c1⟩)
    · rcases ov_any (D := dig r (t + 1)) hk hvt hb hD a4 with ⟨c1, c2⟩ | c1
      · exact Or.inr (Or.inr ⟨D, t + 1, 0, a2, a3, by omega, by omega, fun y => by omega, Or.inr (up _ a2 a3 a4 c1 c2)⟩)
      · exact Or.inr (Or.inl ⟨by omega, ⟨D, a2, a3⟩, c1⟩)
    · rcases a6 with ⟨i, i1, i2⟩ | a6
      · exact Or.inr (Or.inr ⟨D, s, n + 1, a1, a2, a3, by omega, a5, Or.inl ⟨i, by omega, i2⟩⟩)
      · have e1 : qrn k X0 b h1 h2 (256 * D) (n + 1 + 1) = qst k (qrn k X0 b h1 h2 (256 * D) (n + 1)) b h1 h2 (dig (256 * D) (n + 1 + 1)) := rfl
        rw [dg1 D (t := n + 1) (by omega)] at e1
        rcases dF_go (dig r (t + 1)) hk (vx_qrn hk hv hb (by omega) (n + 1)) hvt hb hh hh1 hh2 a6 with c | c
        · exact Or.inr (Or.inr ⟨D, s, n + 1, a1, a2, a3, by omega, a5, Or.inl ⟨n + 1, by omega, by rw [e1]; exact c⟩⟩)
        · exact Or.inr (Or.inr ⟨D, s, n + 1, a1, a2, a3, by omega, a5, Or.inr (by rw [e1]; exact c)⟩)
/-- no row is quicker than one that brings her up in the first tick and then tells 0 -/
theorem best {k : KK} {X0 : X6} {b : Int32} {h1 h2 r : Nat} (hk : VKK k) (hv : VXX k X0) (hb : ix b < ix (kNb k)) (hh : h1 ≠ h2) (hh1 : h1 < ix (kNh k)) (hh2 : h2 < ix (kNh k)) (h0 : xHo X0 (ix b) = 1) (hr : r < 4096) (hT : qtk k X0 b h1 h2 r < 21) : ∃ D, D < 16 ∧ gdQ k X0 b h1 h2 D ∧ ((D = r / 256 ∧ qtk k X0 b h1 h2 (256 * D) ≤ qtk k X0 b h1 h2 r) ∨ qtk k X0 b h1 h2 (256 * D) < qtk k X0 b h1 h2 r) := by
  obtain ⟨t, t1, t2, t3⟩ := qtk_lt hT
  rcases dom2 hk hv hb hh hh1 hh2 h0 hr (t + 1) with ⟨a1, _⟩ | ⟨_, _, a1⟩ | ⟨D, s, n, a1, a2, a3, a4, a5, a6⟩
  · exact absurd t3 (ov_nz a1).1
  · exact absurd t3 (ov_nz a1).1
  · rcases a6 with ⟨i, i1, i2⟩ | a6
    · have := qtk_hit (r := 256 * D) (by omega) i2
      by_cases e : s = 1
      · exact ⟨D, a1, a2, Or.inl ⟨a5 e, by omega⟩⟩
      · exact ⟨D, a1, a2, Or.inr (by omega)⟩
    · have y := a6.2.1
      rw [t3] at y
      exact absurd y (by decide)
def bqw (w : Nat → Nat) (T : Nat → Nat) : Nat → Nat × Int32
  | 0 => (21, -1000000)
  | R + 1 => if T R < (bqw w T R).1 then (T R, nI (w R)) else bqw w T R
theorem bqw_c (w T : Nat → Nat) : ∀ R, (bqw w T R = (21, -1000000) ∧ ∀ r, r < R → 21 ≤ T r) ∨ ∃ r, r < R ∧ T r < 21 ∧ bqw w T R = (T r, nI (w r)) ∧ (∀ r', r' < R → T r ≤ T r') ∧ ∀ r', r' < r → T r < T r'
  | 0 => Or.inl ⟨rfl, fun r h => absurd h (by omega)⟩
  | R + 1 => by
    have e : bqw w T (R + 1) = if T R < (bqw w T R).1 then (T R, nI (w R)) else bqw w T R := rfl
    rcases bqw_c w T R with ⟨a1, a2⟩ | ⟨r, a1, a2, a3, a4, a5⟩
    · rw [a1] at e
      by_cases z : T R < 21
      · rw [if_pos (c := T R < ((21 : Nat), (-1000000 : Int32)).1) z] at e
        refine Or.inr ⟨R, by omega, z, e, fun r' h => ?_, fun r' h => ?_⟩
        · by_cases y : r' = R
          · rw [y]; exact Nat.le_refl _
          · have := a2 r' (by omega)
            omega
        · have := a2 r' h
          omega
      · rw [if_neg (c := T R < ((21 : Nat), (-1000000 : Int32)).1) z] at e
        refine Or.inl ⟨e, fun r h => ?_⟩
        by_cases y : r = R
        · rw [y]; omega
        · exact a2 r (by omega)
    · rw [a3] at e
      by_cases z : T R < T r
      · rw [if_pos (c := T R < (T r, nI (w r)).1) z] at e
        refine Or.inr ⟨R, by omega, by omega, e, fun r' h => ?_, fun r' h => ?_⟩
        · by_cases y : r' = R
          · rw [y]; exact Nat.le_refl _
          · have := a4 r' (by omega)
            omega
        · have := a4 r' h
          omega
      · rw [if_neg (c := T R < (T r, nI (w r)).1) z] at e
        refine Or.inr ⟨r, by omega, a2, e, fun r' h => ?_, a5⟩
        by_cases y : r' = R
        · rw [y]; omega
        · exact a4 r' (by omega)
theorem bqw_bq (T : Nat → Nat) : ∀ R, bqw (fun r => r / 256) T R = bq T R
  | 0 => rfl
  | R + 1 => by
    show (if T R < (bqw (fun r => r / 256) T R).1 then (T R, nI (R / 256)) else bqw (fun r => r / 256) T R) = (if T R < (bq T R).1 then (T R, nI (R / 256)) else bq T R)
    rw [bqw_bq T R]
/-- the ticks of what is told first, then 0 -/
def Tg (k : KK) (X0 : X6) (b : Int32) (h1 h2 D : Nat) : Nat := if gdQ k X0 b h1 h2 D then qtk k X0 b h1 h2 (256 * D) else 21
theorem bq_16 {k : KK} {X0 : X6} {b : Int32} {h1 h2 : Nat} (hk : VKK k) (hv : VXX k X0) (hb : ix b < ix (kNb k)) (hh : h1 ≠ h2) (hh1 : h1 < ix (kNh k)) (hh2 : h2 < ix (kNh k)) (h0 : xHo X0 (ix b) = 1) : bqw (fun r => r) (Tg k X0 b h1 h2) 16 = bq (qtk k X0 b h1 h2) 4096 := by
  rw [← bqw_bq]
  have tg1 : ∀ D, gdQ k X0 b h1 h2 D → Tg k X0 b h1 h2 D = qtk k X0 b h1 h2 (256 * D) := fun D h => if_pos h
  have tg2 : ∀ D, Tg k X0 b h1 h2 D < 21 → gdQ k X0 b h1 h2 D := fun D h => Classical.not_not.mp fun y => by
    have e : Tg k X0 b h1 h2 D = 21 := if_neg y
    omega
  have bst := fun (r : Nat) (hr : r < 4096) (hT : qtk k X0 b h1 h2 r < 21) => best hk hv hb hh hh1 hh2 h0 hr hT
  generalize hTT : qtk k X0 b h1 h2 = T at *
  generalize hGG : Tg k X0 b h1 h2 = U at *
  rcases bqw_c (fun r => r) U 16 with ⟨a1, a2⟩ | ⟨D0, a1, a2, a3, a4, a5⟩
  · rcases bqw_c (fun r => r / 256) T 4096 with ⟨b1, b2⟩ | ⟨r0, b1, b2, b3, b4, b5⟩
    · rw [a1, b1]
    · exfalso
      obtain ⟨D, d1, d2, d3⟩ := bst r0 b1 b2
      have := a2 D d1
      rw [tg1 D d2] at this
      rcases d3 with d3 | d3 <;> omega
  · have g0 := tg2 D0 a2
    have e0 := tg1 D0 g0
    rcases bqw_c (fun r => r / 256) T 4096 with ⟨b1, b2⟩ | ⟨r0, b1, b2, b3, b4, b5⟩
    · exfalso
      have := b2 (256 * D0) (by omega)
      omega
    · obtain ⟨D, d1, d2, d3⟩ := bst r0 b1 b2
      have m1 := b4 (256 * D) (by omega)
      have m2 := b4 (256 * D0) (by omega)
      have m3 := a4 D d1
      have e1 := tg1 D d2
      rcases d3 with ⟨d3, d4⟩ | d3
      · have m4 : D0 ≤ D := Nat.not_lt.mp fun y => by
          have := a5 D y
          omega
        have m5 : D ≤ D0 := Nat.not_lt.mp fun y => by
          have := b5 (256 * D0) (by omega)
          omega
        have eD : D0 = r0 / 256 := by omega
        rw [a3, b3]
        show (U D0, nI D0) = (T r0, nI (r0 / 256))
        rw [← eD, show U D0 = T r0 by omega]
      · omega
