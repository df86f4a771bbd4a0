theorem i_sub {a b : Int32} {l u l' u' : Int} (ha : bt a l u) (hb : bt b l' u') (h1 : -1000000000 ≤ l ∧ u ≤ 1000000000) (h2 : -1000000000 ≤ l' ∧ u' ≤ 1000000000) : (a - b).toInt = a.toInt - b.toInt := by
  have := ha.1; have := ha.2; have := hb.1; have := hb.2
  exact fb_subI (by omega) (by omega)
theorem i_add {a b : Int32} {l u l' u' : Int} (ha : bt a l u) (hb : bt b l' u') (h1 : -1000000000 ≤ l ∧ u ≤ 1000000000) (h2 : -1000000000 ≤ l' ∧ u' ≤ 1000000000) : (a + b).toInt = a.toInt + b.toInt := by
  have := ha.1; have := ha.2; have := hb.1; have := hb.2
  exact fb_addI (by omega) (by omega)
theorem b_sub {a b : Int32} {l u l' u' : Int} (ha : bt a l u) (hb : bt b l' u') (h1 : -1000000000 ≤ l ∧ u ≤ 1000000000) (h2 : -1000000000 ≤ l' ∧ u' ≤ 1000000000) : bt (a - b) (l - u') (u - l') := by
  have := ha.1; have := ha.2; have := hb.1; have := hb.2
  unfold bt
  rw [i_sub ha hb h1 h2]
  omega
theorem b_add {a b : Int32} {l u l' u' : Int} (ha : bt a l u) (hb : bt b l' u') (h1 : -1000000000 ≤ l ∧ u ≤ 1000000000) (h2 : -1000000000 ≤ l' ∧ u' ≤ 1000000000) : bt (a + b) (l + l') (u + u') := by
  have := ha.1; have := ha.2; have := hb.1; have := hb.2
  unfold bt
  rw [i_add ha hb h1 h2]
  omega
theorem b_lit {a : Int32} {l u : Int} (h : l ≤ a.toInt ∧ a.toInt ≤ u) : bt a l u := h
theorem b_w {a : Int32} {l u l' u' : Int} (h : bt a l u) (h1 : l' ≤ l) (h2 : u ≤ u') : bt a l' u' := ⟨by have := h.1; omega, by have := h.2; omega⟩
theorem b_nI {n : Nat} {u : Nat} (h : n ≤ u) (hu : u < 2 ^ 31) : bt (nI n) 0 u := by
  unfold bt
  rw [nI_toInt (by omega)]
  omega
theorem b_of {a : Int32} {u : Nat} {l : Int} (hl : 0 ≤ l) (h : bt a l u) : ∃ n : Nat, l ≤ n ∧ n ≤ u ∧ a = nI n := by
  obtain ⟨h1, h2⟩ := ix_b hl h
  refine ⟨ix a, ?_, h1, h2⟩
  have h3 := h.1
  have h4 : ix a = a.toInt.toNat := rfl
  omega
theorem b_mul6 {a : Int32} (h : bt a 0 9) : bt (6 * a) 0 54 := by
  obtain ⟨n, -, h2, rfl⟩ := b_of (u := 9) (by decide) h
  exact (by decide +kernel : ∀ n : Nat, n < 10 → 0 ≤ (6 * nI n).toInt ∧ (6 * nI n).toInt ≤ 54) n (by omega)
theorem cold_b {k : KK} (hk : VKK k) {h : Nat} (hh : h < ix (kNh k)) : bt (aCold k h) 2 249 := by
  have hv := (hk.2.2.1 h hh).2.2
  obtain ⟨n, h1, h2, e⟩ := b_of (u := 60) (by decide) hv
  unfold aCold
  rw [e]
  have key : ∀ n : Nat, n < 61 → 1 ≤ n → (1 ≤ 6 * nI n) ∧ (2 ≤ (1000 / (6 * nI n)).toInt ∧ (1000 / (6 * nI n)).toInt ≤ 249) ∧ (2 ≤ (1000 / (6 * nI n) + 1000 / (6 * nI n) / 2).toInt ∧ (1000 / (6 * nI n) + 1000 / (6 * nI n) / 2).toInt ≤ 249) := by decide +kernel
  obtain ⟨k1, k2, k3⟩ := key n (by omega) (by omega)
  rw [if_pos k1]
  split
  · exact k2
  · exact k3
theorem vx_ho {k : KK} {X : X6} (h : VXX k X) {b : Nat} {v : Int32} (hv : bt v 0 4) : VXX k (upd X.1 b v, X.2) := by
  refine ⟨fun i hi => ⟨?_, (h.1 i hi).2⟩, h.2⟩
  show bt (upd X.1 b v i) 0 4
  by_cases e : i = b
  · rw [upd_eq e]; exact hv
  · rw [upd_ne e]; exact (h.1 i hi).1
theorem vx_ma {k : KK} {X : X6} (h : VXX k X) {b : Nat} {v : Int32} (hv : bt v 0 100) : VXX k (X.1, upd X.2.1 b v, X.2.2) := by
  refine ⟨fun i hi => ⟨(h.1 i hi).1, ?_, (h.1 i hi).2.2⟩, h.2⟩
  show bt (upd X.2.1 b v i) 0 100
  by_cases e : i = b
  · rw [upd_eq e]; exact hv
  · rw [upd_ne e]; exact (h.1 i hi).2.1
theorem vx_wa {k : KK} {X : X6} (h : VXX k X) {b : Nat} {v : Int32} (hv : bt v 0 70) : VXX k (X.1, X.2.1, upd X.2.2.1 b v, X.2.2.2) := by
  refine ⟨fun i hi => ⟨(h.1 i hi).1, (h.1 i hi).2.1, ?_⟩, h.2⟩
  show bt (upd X.2.2.1 b v i) 0 70
  by_cases e : i = b
  · rw [upd_eq e]; exact hv
  · rw [upd_ne e]; exact (h.1 i hi).2.2
theorem vx_si {k : KK} {X : X6} (h : VXX k X) (g : Nat → Int32) : VXX k (X.1, X.2.1, X.2.2.1, g, X.2.2.2.2) := h
theorem vx_sp {k : KK} {X : X6} (h : VXX k X) {b : Nat} {v : Int32} (hv : bt v 0 3) : VXX k (X.1, X.2.1, X.2.2.1, X.2.2.2.1, upd X.2.2.2.2.1 b v, X.2.2.2.2.2) := by
  refine ⟨h.1, fun i hi => ⟨?_, (h.2 i hi).2⟩⟩
  show bt (upd X.2.2.2.2.1 b v i) 0 3
  by_cases e : i = b
  · rw [upd_eq e]; exact hv
  · rw [upd_ne e]; exact (h.2 i hi).1
theorem vx_send {k : KK} {X : X6} (h : VXX k X) (b f : Int32) {t : Int32} (ht : bt t 0 3) : VXX k (aSend k X b f t) := by
  refine ⟨h.1, fun i hi => ⟨?_, (h.2 i hi).2⟩⟩
  show bt (mapF (xSp X) (fun h => if kBo k h = b ∧ xSp X h = f then t else xSp X h) (ix (kNh k)) i) 0 3
  unfold mapF
  rw [if_pos hi]
  simp only []
  split
  · exact ht
  · exact (h.2 i hi).1
theorem vx_cap {k : KK} {X : X6} (h : VXX k X) (b : Int32) : VXX k (aCap k X b) :=
  vx_send (vx_si (vx_wa (vx_ma (vx_ho h (b_lit (by decide))) (b_lit (by decide))) (b_lit (by decide))) _) _ _ (b_lit (by decide))
theorem vx_up1 {k : KK} {X : X6} (hk : VKK k) (h : VXX k X) {b : Int32} (hb : ix b < ix (kNb k)) : VXX k (aUp1 k X b) := by
  have e := b_sub (a := 70) (b_lit (l := 70) (u := 70) (by decide)) (b_mul6 (hk.2.1 _ hb).2.2.1) (by omega) (by omega)
  exact vx_send (vx_wa (vx_ma (vx_ho h (b_lit (by decide))) (b_lit (by decide))) (b_w e (by omega) (by omega))) _ _ (b_lit (by decide))
theorem vx_up {k : KK} {X : X6} (hk : VKK k) (h : VXX k X) {b : Int32} (hb : ix b < ix (kNb k)) (s : Int32) (x : Int64) : VXX k (aUp k X b s x).1 := by
  unfold aUp
  split
  · split
    · split
      · exact vx_up1 hk h hb
      · exact vx_cap (vx_up1 hk h hb) b
    · exact vx_up1 hk h hb
  · exact vx_up1 hk h hb
theorem vx_fill {k : KK} {X : X6} (hk : VKK k) (h : VXX k X) {b : Int32} (hb : ix b < ix (kNb k)) : VXX k (aFill k X b) := by
  have e1 := (h.1 _ hb).2.1
  have e2 := (hk.2.1 _ hb).2.2.2
  have e3 := b_sub (b_add e1 (b_lit (a := 20) (l := 20) (u := 20) (by decide)) (by omega) (by omega)) e2 (by omega) (by omega)
  have e4 : bt (aFillM k X b) 0 100 := by
    unfold aFillM
    split
    · next z =>
      rw [Int32.lt_iff_toInt_lt] at z
      have z : (xMa X (ix b) + 20 - kFl k (ix b)).toInt < 100 := z
      exact ⟨by have := e3.1; omega, by omega⟩
    · exact b_lit (by decide)
  unfold aFill
  have e5 := vx_ma (b := ix b) h e4
  split
  · refine vx_ho e5 ?_
    split <;> exact b_lit (by decide)
  · exact e5
theorem able_b {k : KK} {X : X6} (hk : VKK k) (b p : Int32) : bt (aAble k X b p) 0 12 := by
  rw [able_cnt]
  have h1 := cnt_le (fun h => kBo k h = b ∧ xSp X h = p ∧ ¬ xGr X h ≤ 0) (ix (kNh k))
  have h2 := (ix_b (n := 12) (by decide) hk.1.2.2.2.2).1
  exact b_nI (u := 12) (by omega) (by decide)
theorem b_mul5 {a : Int32} (h : bt a 0 12) : bt (5 * a) 0 60 := by
  obtain ⟨n, -, h2, rfl⟩ := b_of (u := 12) (by decide) h
  exact (by decide +kernel : ∀ n : Nat, n < 13 → 0 ≤ (5 * nI n).toInt ∧ (5 * nI n).toInt ≤ 60) n (by omega)
theorem vx_bail {k : KK} {X : X6} (hk : VKK k) (h : VXX k X) {b : Int32} (hb : ix b < ix (kNb k)) : VXX k (aBail k X b) := by
  have e1 := (h.1 _ hb).2.2
  have e3 := b_sub (b_sub e1 (b_mul5 (able_b (X := X) hk b 0)) (by omega) (by omega)) (hk.2.1 _ hb).2.2.1 (by omega) (by omega)
  have e4 : bt (aBailW k X b) 0 70 := by
    unfold aBailW
    split
    · next z =>
      rw [Int32.lt_iff_toInt_lt] at z
      have z : 0 < (xWa X (ix b) - 5 * aAble k X b 0 - kAi k (ix b)).toInt := z
      exact ⟨by omega, by have := e3.2; omega⟩
    · exact b_lit (by decide)
  unfold aBail
  split
  · refine vx_ho (vx_wa h e4) ?_
    split <;> exact b_lit (by decide)
  · exact h
theorem vx_ride {k : KK} {X : X6} (hk : VKK k) (h : VXX k X) {b : Int32} (hb : ix b < ix (kNb k)) (s : Int32) (x : Int64) : VXX k (aRide k X b s x).1 := by
  unfold aRide
  split
  · split
    · exact vx_bail hk h hb
    · exact vx_cap h b
  · exact vx_bail hk h hb
theorem vx_rnd {k : KK} {X : X6} (h : VXX k X) (b : Int32) : VXX k (aRnd k X b) := by
  unfold aRnd
  split
  · refine vx_ho h ?_
    split <;> exact b_lit (by decide)
  · split
    · exact h
    · exact vx_si (vx_ma (vx_ho h (b_lit (by decide))) (b_lit (by decide))) _
theorem vx_chill {k : KK} {X : X6} (hk : VKK k) (h : VXX k X) (b : Int32) : VXX k (aChill k X b) := by
  refine ⟨h.1, fun i hi => ⟨(h.2 i hi).1, ?_⟩⟩
  have e1 := (h.2 i hi).2
  have e2 := b_sub e1 (cold_b hk hi) (by omega) (by omega)
  show bt (mapF (xGr X) (fun h => if kBo k h = b ∧ (¬ xSp X h = 0 ∨ xHo X (ix b) = 4) then (if 0 < xGr X h - aCold k h then xGr X h - aCold k h else 0) else xGr X h) (ix (kNh k)) i) 0 1000
  unfold mapF
  rw [if_pos hi]
  simp only []
  split
  · split
    · next z =>
      rw [Int32.lt_iff_toInt_lt] at z
      have z : 0 < (xGr X i - aCold k i).toInt := z
      exact ⟨by omega, by have := e2.2; omega⟩
    · exact b_lit (by decide)
  · exact e1
theorem vx_tick {k : KK} {X : X6} (hk : VKK k) (h : VXX k X) {b : Int32} (hb : ix b < ix (kNb k)) (s : Int32) (x : Int64) : VXX k (aTick k X b s x).1 := by
  unfold aTick
  refine vx_chill hk ?_ b
  rw [aT1_eq]
  split
  · unfold aSid
    split
    · exact vx_fill hk h hb
    · exact vx_up hk h hb s x
  · split
    · exact vx_rnd h b
    · exact vx_ride hk h hb s x
theorem RC_x {k : KK} {X X' : X6} {t : Int32} {K f F : Nat → Int32} (h : RC k X t K f) (hv : VXX k X') (he : E6 (ix (K 4)) X' F) (h48 : F 48 = f 48) : RC k X' t K F := ⟨h.1, he, h48.trans h.2.2.1, h.2.2.2.1, hv⟩
theorem e_sp1 {N : Nat} {X : X6} {f : Nat → Int32} {j : Nat} {v : Int32} (h : E6 N X f) (hj : j < 12) : E6 N (X.1, X.2.1, X.2.2.1, X.2.2.2.1, upd X.2.2.2.2.1 j v, X.2.2.2.2.2) (upd f (24 + 2 * j) v) := by
  refine ⟨fun b hb => ?_, fun i hi => ?_⟩
  · obtain ⟨h1, h2, h3, h4⟩ := h.1 b hb
    exact ⟨h1.trans (upd_ne (by omega)).symm, h2.trans (upd_ne (by omega)).symm, h3.trans (upd_ne (by omega)).symm, h4.trans (upd_ne (by omega)).symm⟩
  · obtain ⟨h1, h2⟩ := h.2 i hi
    refine ⟨?_, h2.trans (upd_ne (by omega)).symm⟩
    show upd X.2.2.2.2.1 j v i = _
    by_cases e : i = j
    · rw [upd_eq e, upd_eq (by omega)]
    · rw [upd_ne e, upd_ne (by omega)]; exact h1
