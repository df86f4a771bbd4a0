abbrev sb (t O : Nat) : Prop := t &&& O = t
theorem sb_half {t O : Nat} (h : sb t O) : sb (t / 2) (O / 2) ∧ (t % 2 = 1 → O % 2 = 1) := by
  refine ⟨?_, fun z => ?_⟩
  · show t / 2 &&& O / 2 = t / 2
    rw [← Nat.and_div_two, h]
  · have : (t &&& O) % 2 = 1 := by rw [h]; exact z
    exact (Nat.and_mod_two_eq_one.mp this).2
theorem sb_max : ∀ (n O D t : Nat), D < 2 ^ n → sb D O → sb t O → t < D → t ≤ (D - 1) &&& O
  | 0, O, D, t, h, _, _, h3 => by simp at h; omega
  | n + 1, O, D, t, h, h1, h2, h3 => by
    rw [Nat.pow_succ] at h
    have d1 := sb_half h1
    have t1 := sb_half h2
    have x1 : ((D - 1) &&& O) / 2 = (D - 1) / 2 &&& O / 2 := Nat.and_div_two
    by_cases hd : D % 2 = 1
    · have e : (D - 1) / 2 = D / 2 := by omega
      rw [e, d1.1] at x1
      omega
    · have e : (D - 1) / 2 = D / 2 - 1 := by omega
      rw [e] at x1
      have ih := sb_max n (O / 2) (D / 2) (t / 2) (by omega) d1.1 t1.1 (by omega)
      rw [← x1] at ih
      by_cases ht : t % 2 = 1
      · have x2 : ((D - 1) &&& O) % 2 = 1 := Nat.and_mod_two_eq_one.mpr ⟨by omega, t1.2 ht⟩
        omega
      · omega
theorem sb_xor : ∀ (n O x : Nat), O < 2 ^ n → sb x O → O - x = O ^^^ x
  | 0, O, x, h, h1 => by
    have hO : O = 0 := by simp at h; omega
    subst hO
    have : x = 0 := h1.symm.trans (Nat.and_zero x)
    subst this
    rfl
  | n + 1, O, x, h, h1 => by
    rw [Nat.pow_succ] at h
    have d1 := sb_half h1
    have ih := sb_xor n (O / 2) (x / 2) (by omega) d1.1
    have e1 : (O ^^^ x) / 2 = O / 2 ^^^ x / 2 := Nat.xor_div_two
    rw [← ih] at e1
    have hle : x / 2 ≤ O / 2 := by
      have := @Nat.and_le_right (x / 2) (O / 2)
      rw [d1.1] at this
      exact this
    have e2 : (O ^^^ x) % 2 = 1 ↔ ¬ (O % 2 = 1 ↔ x % 2 = 1) := Nat.xor_mod_two_eq_one
    have d2 := d1.2
    by_cases a : O % 2 = 1
    · by_cases b : x % 2 = 1
      · have : ¬ (O ^^^ x) % 2 = 1 := fun z => (e2.mp z) ⟨fun _ => b, fun _ => a⟩
        omega
      · have : (O ^^^ x) % 2 = 1 := e2.mpr (fun z => b (z.mp a))
        omega
    · have b : ¬ x % 2 = 1 := fun z => a (d2 z)
      have : ¬ (O ^^^ x) % 2 = 1 := fun z => (e2.mp z) ⟨fun y => absurd y a, fun y => absurd y b⟩
      omega
theorem sb_le {t O : Nat} (h : sb t O) : t ≤ O := by
  have := @Nat.and_le_right t O
  rw [h] at this
  exact this
theorem sb_and (a O : Nat) : sb (a &&& O) O := by
  show (a &&& O) &&& O = a &&& O
  rw [Nat.and_assoc, Nat.and_self]
theorem sb_compl {O s : Nat} (hO : O < 2 ^ 12) (h : sb s O) : sb (O - s) O := by
  rw [sb_xor 12 O s hO h]
  show (O ^^^ s) &&& O = O ^^^ s
  rw [Nat.and_xor_distrib_right, Nat.and_self, h]
/-- the next greater one; 0 behind the last -/
def nxt (s O : Nat) : Nat := if s = O then 0 else O - ((O - s - 1) &&& O)
theorem nxt_ne {s O : Nat} (hO : O < 2 ^ 12) (h : sb s O) (hs : ¬ s = O) : sb (nxt s O) O ∧ s < nxt s O ∧ ∀ t, sb t O → s < t → nxt s O ≤ t := by
  have h1 := sb_le h
  rw [nxt, if_neg hs]
  have x1 := @Nat.and_le_left (O - s - 1) O
  have x2 := sb_and (O - s - 1) O
  refine ⟨sb_compl hO x2, by omega, fun t ht hst => ?_⟩
  have h2 := sb_le ht
  have h3 := sb_max 12 O (O - s) (O - t) (by omega) (sb_compl hO h) (sb_compl hO ht) (by omega)
  omega
theorem nxt_0 {s O : Nat} (h : sb s O) (hO : O < 2 ^ 12) (h0 : nxt s O = 0) : s = O := by
  by_cases e : s = O
  · exact e
  · have := (nxt_ne hO h e).2.1
    omega
theorem nxt_int {s O : Nat} (hO : O < 2 ^ 12) (h : sb s O) : (nI s - nI O) &&& nI O = nI (nxt s O) := by
  by_cases e : s = O
  · rw [nxt, if_pos e, e, Int32.sub_self]
    apply Int32.toBitVec_inj.mp
    simp [nI]
  · rw [nxt, if_neg e]
    have h1 := sb_le h
    apply Int32.toBitVec_inj.mp
    apply BitVec.eq_of_toNat_eq
    rw [Int32.toBitVec_and, BitVec.toNat_and, pk_tn (n := O) (by omega), pk_tn (n := O - ((O - s - 1) &&& O)) (by omega)]
    have e1 : (nI s - nI O).toBitVec.toNat = 2 ^ 32 - (O - s - 1 + 1) := by
      rw [Int32.toBitVec_sub, BitVec.toNat_sub, pk_tn (n := s) (by omega), pk_tn (n := O) (by omega)]
      have : (2 : Nat) ^ 32 = 4294967296 := by decide
      omega
    rw [e1, sb_xor 12 O _ hO (sb_and _ _)]
    apply Nat.eq_of_testBit_eq
    intro i
    rw [Nat.testBit_and, Nat.testBit_xor, Nat.testBit_and, Nat.testBit_two_pow_sub_succ (by omega)]
    by_cases hi : i < 32
    · cases (O - s - 1).testBit i <;> cases O.testBit i <;> simp [hi]
    · have : O.testBit i = false := Nat.testBit_lt_two_pow (Nat.lt_of_lt_of_le hO (Nat.pow_le_pow_right (by decide) (by omega)))
      rw [this]
      simp
theorem cnt_add (p : Nat → Prop) [DecidablePred p] (a : Nat) : ∀ b, cnt p (a + b) = cnt p a + cnt (fun i => p (a + i)) b
  | 0 => rfl
  | b + 1 => by
    show cnt p (a + b) + (if p (a + b) then 1 else 0) = cnt p a + (cnt (fun i => p (a + i)) b + (if p (a + b) then 1 else 0))
    rw [cnt_add p a b]
    omega
theorem cnt_mono {p q : Nat → Prop} [DecidablePred p] [DecidablePred q] : ∀ {n : Nat}, (∀ i, i < n → p i → q i) → cnt p n ≤ cnt q n
  | 0, _ => Nat.le_refl _
  | n + 1, h => by
    have ih := cnt_mono (p := p) (q := q) (n := n) (fun i hi => h i (by omega))
    unfold cnt
    by_cases z : p n
    · rw [if_pos z, if_pos (h n (by omega) z)]; omega
    · rw [if_neg z]; split <;> omega
theorem cnt_le2 (p : Nat → Prop) [DecidablePred p] {a b : Nat} (h : a ≤ b) : cnt p a ≤ cnt p b := by
  obtain ⟨d, rfl⟩ : ∃ d, b = a + d := ⟨b - a, by omega⟩
  rw [cnt_add]
  omega
theorem cnt_none {p : Nat → Prop} [DecidablePred p] {a b : Nat} (hab : a ≤ b) (h : ∀ t, a ≤ t → t < b → ¬ p t) : cnt p b = cnt p a := by
  obtain ⟨d, rfl⟩ : ∃ d, b = a + d := ⟨b - a, by omega⟩
  rw [cnt_add, (cnt_0 _ d).mpr (fun ⟨i, hi, hp⟩ => h (a + i) (by omega) (by omega) hp)]
  rfl
theorem cnt_sb (O : Nat) : ∀ n, cnt (fun t => sb t O) (2 ^ n) ≤ 2 ^ cnt (fun h => O.testBit h = true) n
  | 0 => by
    show cnt (fun t => sb t O) 1 ≤ 1
    exact cnt_le _ 1
  | n + 1 => by
    have ih := cnt_sb O n
    rw [Nat.pow_succ, Nat.mul_two, cnt_add]
    have e : cnt (fun h => O.testBit h = true) (n + 1) = cnt (fun h => O.testBit h = true) n + (if O.testBit n = true then 1 else 0) := rfl
    have key : ∀ u, u < 2 ^ n → sb (2 ^ n + u) O → O.testBit n = true ∧ sb u O := by
      intro u hu hs
      have hun : u.testBit n = false := Nat.testBit_lt_two_pow hu
      have b : ∀ i, (2 ^ n + u).testBit i = true → O.testBit i = true := by
        intro i hi
        have := congrArg (fun z => z.testBit i) hs
        simp only [Nat.testBit_and, hi, Bool.true_and] at this
        exact this
      refine ⟨b n (by rw [Nat.testBit_two_pow_add_eq, hun]; rfl), ?_⟩
      apply Nat.eq_of_testBit_eq
      intro i
      rw [Nat.testBit_and]
      by_cases hi : i < n
      · cases hb : u.testBit i with
        | false => rfl
        | true => rw [b i (by rw [Nat.testBit_two_pow_add_gt hi]; exact hb)]; rfl
      · have : u.testBit i = false := Nat.testBit_lt_two_pow (Nat.lt_of_lt_of_le hu (Nat.pow_le_pow_right (by decide) (by omega)))
        rw [this]
        rfl
    rw [e]
    by_cases hb : O.testBit n = true
    · rw [if_pos hb, Nat.pow_succ, Nat.mul_two]
      have : cnt (fun i => sb (2 ^ n + i) O) (2 ^ n) ≤ cnt (fun t => sb t O) (2 ^ n) := cnt_mono (fun u hu z => (key u hu z).2)
      omega
    · rw [if_neg hb, Nat.add_zero]
      have : cnt (fun i => sb (2 ^ n + i) O) (2 ^ n) = 0 := (cnt_0 _ _).mpr (fun ⟨u, hu, hp⟩ => hb (key u hu hp).1)
      omega

