def pw (v : Int64) : Nat → Int64
  | 0 => 1
  | k + 1 => pw v k * v
theorem pw_lN (v : Nat) : ∀ k, pw (lN v) k = lN (v ^ k)
  | 0 => rfl
  | k + 1 => by rw [pw, pw_lN v k, lN_mul, Nat.pow_succ]
def wyN (n : Nat) : Nat → Nat
  | 0 => 1
  | k + 1 => wyN n k * (n - k) / (k + 1)
theorem wyN_b {n k : Nat} (hn : n < 8) (hk : k < 9) : wyN n k ≤ 35 := (by decide +kernel : ∀ n, n < 8 → ∀ k, k < 9 → wyN n k ≤ 35) n hn k hk
def sN (n p q r : Nat) : Nat → Nat
  | 0 => 0
  | i + 1 => sN n p q r i + wyN n (r + 1 + i) * p ^ (r + 1 + i) * q ^ (n - (r + 1 + i))
def mN (n p q r : Nat) : Nat → Nat
  | 0 => 0
  | k + 1 => mN n p q r k + (if k ≤ r then 0 else wyN n k * p ^ k * q ^ (n - k))
theorem mN_0 (n p q r : Nat) : ∀ k, k ≤ r + 1 → mN n p q r k = 0
  | 0, _ => rfl
  | k + 1, h => by rw [mN, mN_0 n p q r k (by omega), if_pos (by omega)]
theorem mN_s (n p q r : Nat) : ∀ i, mN n p q r (r + 1 + i) = sN n p q r i
  | 0 => mN_0 n p q r _ (by omega)
  | i + 1 => by
    show mN n p q r (r + 1 + i) + (if r + 1 + i ≤ r then 0 else _) = sN n p q r i + _
    rw [mN_s n p q r i, if_neg (by omega)]
    rfl
theorem mN_sN (n p q r : Nat) : mN n p q r (n + 1) = sN n p q r (n - r) := by
  by_cases h : r < n
  · have := mN_s n p q r (n - r)
    rwa [show r + 1 + (n - r) = n + 1 by omega] at this
  · rw [mN_0 _ _ _ _ _ (by omega), show n - r = 0 by omega]
    rfl
theorem sN_b {n p q r : Nat} (hn : n < 8) (hp : p ≤ 100) (hq : q ≤ 100) : ∀ i, r + i ≤ n → sN n p q r i ≤ i * (35 * 100000000000000)
  | 0, _ => Nat.le_refl _
  | i + 1, h => by
    have ih := sN_b (r := r) hn hp hq i (by omega)
    have h1 := wyN_b (n := n) (k := r + 1 + i) hn (by omega)
    have h2 : p ^ (r + 1 + i) * q ^ (n - (r + 1 + i)) ≤ 100 ^ n := by
      have e : (100 : Nat) ^ n = 100 ^ (r + 1 + i) * 100 ^ (n - (r + 1 + i)) := by rw [← Nat.pow_add]; congr 1; omega
      rw [e]
      exact Nat.mul_le_mul (Nat.pow_le_pow_left hp _) (Nat.pow_le_pow_left hq _)
    have h3 : (100 : Nat) ^ n ≤ 100000000000000 := Nat.le_trans (Nat.pow_le_pow_right (by decide) (show n ≤ 7 by omega)) (by decide)
    have h4 : wyN n (r + 1 + i) * p ^ (r + 1 + i) * q ^ (n - (r + 1 + i)) ≤ 35 * 100000000000000 := by
      rw [Nat.mul_assoc]
      exact Nat.mul_le_mul h1 (Nat.le_trans h2 h3)
    show sN n p q r i + _ ≤ _
    rw [Nat.succ_mul]
    exact Nat.add_le_add ih h4
/-- Euclid's numbers -/
def eu (a b : Nat) : Nat → Nat × Nat
  | 0 => (a, b)
  | i + 1 => ((eu a b i).2, (eu a b i).1 % (eu a b i).2)
theorem eu_lt {a b M : Nat} (ha : a < M) (hb : b < M) : ∀ i, (eu a b i).1 < M ∧ (eu a b i).2 < M
  | 0 => ⟨ha, hb⟩
  | i + 1 => by
    obtain ⟨h1, h2⟩ := eu_lt ha hb i
    refine ⟨h2, ?_⟩
    show (eu a b i).1 % (eu a b i).2 < M
    exact Nat.lt_of_le_of_lt (Nat.mod_le _ _) h1
theorem eu_gcd (a b : Nat) : ∀ i, Nat.gcd (eu a b i).1 (eu a b i).2 = Nat.gcd a b
  | 0 => rfl
  | i + 1 => by
    rw [← eu_gcd a b i]
    show Nat.gcd (eu a b i).2 ((eu a b i).1 % (eu a b i).2) = _
    rw [Nat.gcd_comm (eu a b i).1 (eu a b i).2, Nat.gcd_rec (eu a b i).2 (eu a b i).1, Nat.gcd_comm]
theorem mod_half {b c : Nat} (h0 : 0 < c) (h : c < b) : b % c * 2 ≤ b := by
  have h1 := Nat.div_add_mod b c
  have h2 := Nat.mod_lt b h0
  have h3 : 1 ≤ b / c := Nat.div_pos (by omega) h0
  have h4 : c * 1 ≤ c * (b / c) := Nat.mul_le_mul_left c h3
  omega
theorem eu_half {a b : Nat} {i : Nat} (h0 : ¬ (eu a b i).2 = 0) (h1 : ¬ (eu a b (i + 1)).2 = 0) : (eu a b (i + 2)).2 * 2 ≤ (eu a b i).2 := by
  show (eu a b i).2 % (eu a b (i + 1)).2 * 2 ≤ _
  have h2 : (eu a b (i + 1)).2 < (eu a b i).2 := by
    show (eu a b i).1 % (eu a b i).2 < _
    exact Nat.mod_lt _ (by omega)
  exact mod_half (by omega) h2
theorem eu_pow {a b : Nat} : ∀ j, (∀ k, k < 2 * j + 1 → ¬ (eu a b k).2 = 0) → (eu a b (2 * j)).2 * 2 ^ j ≤ b
  | 0, _ => by show b * 1 ≤ b; omega
  | j + 1, h => by
    have ih := eu_pow (a := a) (b := b) j (fun k hk => h k (by omega))
    have h1 := eu_half (a := a) (b := b) (i := 2 * j) (h _ (by omega)) (h _ (by omega))
    rw [Nat.pow_succ, Nat.mul_comm (2 ^ j) 2, ← Nat.mul_assoc]
    exact Nat.le_trans (Nat.mul_le_mul_right (2 ^ j) h1) ih
theorem eu_end {a b : Nat} (hb : b < 2 ^ 63) (h : ∀ k, k < 200 → ¬ (eu a b k).2 = 0) : False := by
  have h1 := eu_pow (a := a) (b := b) 64 (fun k hk => h k (by omega))
  have h2 := h (2 * 64) (by omega)
  have h3 : 1 * 2 ^ 64 ≤ (eu a b (2 * 64)).2 * 2 ^ 64 := Nat.mul_le_mul_right _ (by omega)
  have h4 : (2 : Nat) ^ 64 = 18446744073709551616 := by decide
  have h5 : (2 : Nat) ^ 63 = 9223372036854775808 := by decide
  rw [h5] at hb
  rw [h4] at h1 h3
  omega
theorem ways_st {n i : Nat} (hn : n < 8) (hi : i < n) : lN (wyN n i) * (nI n - nI (i + 1) + 1).toInt64 / (nI (i + 1)).toInt64 = lN (wyN n (i + 1)) := by
  have hw := wyN_b (n := n) (k := i) hn (by omega)
  have hm : wyN n i * (n - i) ≤ 35 * 8 := Nat.mul_le_mul hw (by omega)
  rw [nI_sub (by omega), nI_1, show n - (i + 1) + 1 = n - i by omega, nI_l (by omega), nI_l (by omega), lN_mul, pk_lDiv (by omega) (by omega) (by omega)]
  rfl
theorem ways_sm {n i : Nat} (hn : n < 8) (hi : i ≤ n) : lN (wyN n i) * (nI n - nI i).toInt64 / (nI (i + 1)).toInt64 = lN (wyN n (i + 1)) := by
  have hw := wyN_b (n := n) (k := i) hn (by omega)
  have hm : wyN n i * (n - i) ≤ 35 * 8 := Nat.mul_le_mul hw (by omega)
  rw [nI_sub (by omega), nI_l (by omega), nI_l (by omega), lN_mul, pk_lDiv (by omega) (by omega) (by omega)]
  rfl
theorem nz_l {i : Nat} (h : 0 < i) (h2 : i < 2 ^ 31) : ¬ (nI i).toInt64 = 0 := by
  rw [nI_l h2, show (0 : Int64) = lN 0 from rfl, pk_lEQ (by omega) (by omega)]
  omega

