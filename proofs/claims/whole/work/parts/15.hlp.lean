def isC (c : Nat) : Prop := c = 7 ∨ c = 21 ∨ c = 35 ∨ c = 49 ∨ c = 65
theorem shC {c : Nat} (h : isC c) : sh c = (4, 0) ∧ rt c 6 = c + 1 ∧ rt c 7 = c + 2 ∧ rt c 8 = c + 3 ∧ rt c 9 = c + 4 ∧ rt c 10 = c + 5 ∧ rt c 11 = c + 6 ∧ rt c 12 = c + 7 ∧ rt c 13 = c + 8 ∧ rt c 14 = c + 9 ∧ rt c 15 = c + 10 ∧ rt c 16 = c + 11 ∧ rt c 17 = c + 12 ∧ rt c 18 = c + 13 ∧ sh (c + 1) = (0, 6) ∧ sh (c + 2) = (0, 6) ∧ sh (c + 3) = (0, 6) ∧ sh (c + 4) = (0, 6) ∧ sh (c + 5) = (0, 6) ∧ sh (c + 6) = (0, 6) ∧ sh (c + 7) = (0, 6) ∧ sh (c + 8) = (0, 6) ∧ sh (c + 9) = (0, 12) ∧ sh (c + 10) = (0, 12) ∧ sh (c + 11) = (0, 12) ∧ sh (c + 12) = (0, 12) ∧ sh (c + 13) = (0, 12) := by
  rcases h with rfl | rfl | rfl | rfl | rfl <;> decide +kernel
theorem isCl : isC 7 = True ∧ isC 21 = True ∧ isC 35 = True ∧ isC 49 = True ∧ isC 65 = True := by simp [isC]
theorem shO : sh 0 = (10, 0) ∧ rt 0 0 = 1 ∧ rt 0 1 = 5 ∧ rt 0 2 = 7 ∧ rt 0 3 = 21 ∧ rt 0 4 = 35 ∧ rt 0 5 = 49 ∧ rt 0 6 = 63 ∧ rt 0 7 = 64 ∧ rt 0 8 = 81 ∧ rt 0 9 = 84 ∧ sh 1 = (8, 0) ∧ rt 1 0 = 2 ∧ rt 1 1 = 3 ∧ rt 1 2 = 4 ∧ sh 2 = (0, 8) ∧ sh 3 = (0, 8) ∧ sh 4 = (0, 320) ∧ sh 5 = (6, 0) ∧ rt 5 0 = 6 ∧ sh 6 = (1, 400) ∧ sh 63 = (5, 0) ∧ sh 79 = (5, 0) ∧ sh 64 = (9, 0) ∧ rt 64 0 = 65 ∧ rt 64 1 = 79 ∧ sh 81 = (7, 0) ∧ rt 81 0 = 82 ∧ rt 81 1 = 83 ∧ sh 82 = (0, 6) ∧ sh 83 = (0, 6) ∧ sh 84 = (3, 0) ∧ rt 84 0 = 85 ∧ sh 85 = (0, 16) ∧ sh 7 = (4, 0) ∧ sh 21 = (4, 0) ∧ sh 35 = (4, 0) ∧ sh 49 = (4, 0) ∧ sh 65 = (4, 0) := by decide +kernel
theorem shM : sh 86 = (11, 0) ∧ rt 86 2 = 87 ∧ rt 86 3 = 88 ∧ rt 86 4 = 89 ∧ rt 86 5 = 90 ∧ rt 86 6 = 91 ∧ rt 86 8 = 92 ∧ rt 86 9 = 93 ∧ rt 86 20 = 94 ∧ rt 86 25 = 95 ∧ rt 86 26 = 96 ∧ rt 86 27 = 97 ∧ rt 86 28 = 98 ∧ rt 86 29 = 99 ∧ rt 86 30 = 80 ∧ sh 87 = (0, 8) ∧ sh 88 = (0, 8) ∧ sh 89 = (0, 320) ∧ sh 90 = (0, 65) ∧ sh 91 = (0, 65) ∧ sh 92 = (0, 49) ∧ sh 93 = (0, 400) ∧ sh 94 = (0, 49) ∧ sh 95 = (0, 6) ∧ sh 96 = (0, 6) ∧ sh 97 = (2, 2) ∧ sh 98 = (0, 130) ∧ sh 99 = (0, 98) ∧ sh 80 = (0, 16) := by decide +kernel
theorem shK : sh 1000 = (50, 0) ∧ sh 1001 = (50, 0) ∧ sh 1002 = (50, 0) ∧ sh 1003 = (50, 0) ∧ sh 1010 = (51, 3) ∧ sh 1011 = (51, 3) ∧ sh 1012 = (51, 4) ∧ sh 1013 = (51, 4) ∧ sh 1020 = (52, 6) ∧ sh 1021 = (52, 6) ∧ sh 1022 = (52, 6) := by decide +kernel
theorem popR (x : Nat) (st : List Value) (k : Nat → List Value → Prop) : p_r (.ref x :: st) k = k x st := rfl
theorem ne10 : ((10 : Int32) = 0) = False := by decide
theorem litS : ((0 : Int32) = 1) = False ∧ ((0 : Int32) = 2) = False ∧ ((0 : Int32) = 3) = False ∧ ((0 : Int32) = 4) = False ∧ ((0 : Int32) = 5) = False ∧ ((1 : Int32) = 0) = False ∧ ((1 : Int32) = 2) = False ∧ ((1 : Int32) = 3) = False ∧ ((1 : Int32) = 4) = False ∧ ((1 : Int32) = 5) = False ∧ ((2 : Int32) = 0) = False ∧ ((2 : Int32) = 1) = False ∧ ((2 : Int32) = 3) = False ∧ ((2 : Int32) = 4) = False ∧ ((2 : Int32) = 5) = False ∧ ((3 : Int32) = 0) = False ∧ ((3 : Int32) = 1) = False ∧ ((3 : Int32) = 2) = False ∧ ((3 : Int32) = 4) = False ∧ ((3 : Int32) = 5) = False ∧ ((4 : Int32) = 0) = False ∧ ((4 : Int32) = 1) = False ∧ ((4 : Int32) = 2) = False ∧ ((4 : Int32) = 3) = False ∧ ((4 : Int32) = 5) = False ∧ ((5 : Int32) = 0) = False ∧ ((5 : Int32) = 1) = False ∧ ((5 : Int32) = 2) = False ∧ ((5 : Int32) = 3) = False ∧ ((5 : Int32) = 4) = False := by simp
def isD (d : Nat) : Prop := d = 63 ∨ d = 79
theorem shD {d : Nat} (h : isD d) : sh d = (5, 0) := by rcases h with rfl | rfl <;> decide +kernel
theorem isDl : isD 63 = True ∧ isD 79 = True := by simp [isD]
/-- the Model's two rows of how things are -/
def isR (r : Nat) : Prop := r = 92 ∨ r = 94
theorem shR {r : Nat} (h : isR r) : sh r = (0, 49) := by rcases h with rfl | rfl <;> decide +kernel
theorem isRl : isR 92 = True ∧ isR 94 = True := by simp [isR]
abbrev ix (i : Int32) : Nat := i.toNatClampNeg
def bI (p : Prop) [Decidable p] : Int32 := if p then 1 else 0
theorem bI_0 {p : Prop} [Decidable p] : (bI p = 0) = ¬ p := by by_cases h : p <;> simp [bI, h]
theorem bI_1 {p : Prop} [Decidable p] : (bI p = 1) = p := by by_cases h : p <;> simp [bI, h]
theorem bI_and {p : Prop} [Decidable p] : bI p &&& 1 = bI p := by by_cases h : p <;> simp [bI, h]
theorem bI_t {p : Prop} [Decidable p] (h : p) : bI p = 1 := by simp [bI, h]
theorem bI_f {p : Prop} [Decidable p] (h : ¬ p) : bI p = 0 := by simp [bI, h]
theorem and01 : ((0 : Int32) &&& 1 = 0) = True ∧ ((1 : Int32) &&& 1 = 1) = True := ⟨by decide, by decide⟩
/-- sums over the first n -/
def fd (f : Nat → Int32) : Nat → Int32
  | 0 => 0
  | n + 1 => fd f n + f n
theorem fd_c {f g : Nat → Int32} : ∀ {n : Nat}, (∀ i, i < n → f i = g i) → fd f n = fd g n
  | 0, _ => rfl
  | n + 1, h => by rw [fd, fd, fd_c (fun i hi => h i (by omega)), h n (by omega)]
theorem ix_le (N : Int32) {i : Nat} (hi : i < 2 ^ 31) : (N ≤ nI i) = (ix N ≤ i) := by
  unfold ix
  rw [Int32.le_iff_toInt_le, nI_toInt hi]
  apply propext
  show _ ↔ N.toInt.toNat ≤ i
  omega
theorem ix_nI {i : Nat} (hi : i < 2 ^ 31) : ix (nI i) = i := nI_clamp hi
theorem ix_max {N : Int32} {k : Nat} (h : N ≤ nI k) (hk : k < 2 ^ 31) : ix N ≤ k := by rw [ix_le N hk] at h; exact h
theorem ix_of {N : Int32} (h : ¬ N < 0) : N = nI (ix N) ∧ ix N < 2 ^ 31 := by
  obtain ⟨j, hj, rfl⟩ := nI_of h
  rw [ix_nI hj]
  exact ⟨rfl, hj⟩
theorem xin {i : Int32} {n : Nat} (h0 : ¬ i < 0) (h : ix i < n) : vp_in i n := fun q => q.elim h0 (fun q => by unfold ix at h; omega)
theorem xin_lt {i : Int32} {n : Nat} (h : vp_in i n) : ¬ i < 0 ∧ ix i < n := ⟨fun q => h (Or.inl q), Nat.not_le.mp fun q => h (Or.inr q)⟩
theorem xin_nI {i n : Nat} (h : i < n) (hn : n ≤ 1000) : vp_in (nI i) n := vp_in_nI h (by omega)
theorem xin_lit {n N : Nat} (h : n < N) (hN : N ≤ 1000) : vp_in (OfNat.ofNat n) N := vp_in_nI h (by omega)
theorem nI_lit (n : Nat) : (OfNat.ofNat n : Int32) = nI n := rfl
theorem xa_1 (m : xM) (k q : Nat) (f : Nat → Int32) : (xa m k f).1 q = if q = k then f else m.1 q := rfl
theorem xa_2 (m : xM) (k : Nat) (f : Nat → Int32) : (xa m k f).2 = m.2 := rfl
theorem xb_1 (m : xM) (k : Nat) (f : Nat → Int64) : (xb m k f).1 = m.1 := rfl
theorem xb_2 (m : xM) (k q : Nat) (f : Nat → Int64) : (xb m k f).2 q = if q = k then f else m.2 q := rfl
theorem xa_xa (m : xM) (k : Nat) (f g : Nat → Int32) : xa (xa m k f) k g = xa m k g := by
  unfold xa
  refine Prod.ext (funext fun q => ?_) rfl
  by_cases h : q = k <;> simp [h]
theorem xa_id (m : xM) (k : Nat) : xa m k (m.1 k) = m := by
  unfold xa
  refine Prod.ext (funext fun q => ?_) rfl
  by_cases h : q = k <;> simp [h]
theorem upd_at (f : Nat → Int32) (i j : Nat) (x : Int32) : upd f i x j = if j = i then x else f j := rfl
theorem cmpS : (∀ x y : Int64, (lg_cmp x y < 0) = (x < y)) ∧ (∀ x y : Int64, (0 < lg_cmp x y) = (y < x)) ∧ (∀ x y : Int64, (lg_cmp x y = 0) = (x = y)) ∧ (∀ x y : Int64, (0 ≤ lg_cmp x y) = (y ≤ x)) ∧ (∀ x y : Int64, (lg_cmp x y ≤ 0) = (x ≤ y)) := by
  refine ⟨fun x y => ?_, fun x y => ?_, fun x y => ?_, fun x y => ?_, fun x y => ?_⟩ <;> unfold lg_cmp <;> apply propext <;> simp only [gt_iff_lt, Int64.lt_iff_toInt_lt, Int64.le_iff_toInt_le, ← Int64.toInt_inj] <;> split <;> (try split) <;> simp <;> omega
