def mOK (T : Tp) (c : Nat → Int32) (a : Nat) : Prop := c 12 = nI T.2 ∧ mNX T c a ∧ c 17 = 0
def GF (m M : xM) : Prop := (∀ q, q ≠ 86 → q ≠ 91 → M.1 q = m.1 q) ∧ M.2 = m.2 ∧ ∀ i, ¬ (12 ≤ i ∧ i ≤ 18) → M.1 86 i = m.1 86 i
def GO (T : Tp) (a : Nat) (m : xM) (F : Nat → Int32) (M : xM) : Prop := GF m M ∧ tpM T M ∧ a ≤ T.2 ∧ mOK T (M.1 86) a ∧ M.1 91 = F
def TKN (M : xM) : Prop := ∃ (T : Tp) (a : Nat), tpM T M ∧ a ≤ T.2 ∧ mNX T (M.1 86) a
def GB (f p : Nat) (m M : xM) : Prop := GF m M ∧ M.1 86 17 = nI f ∧ M.1 86 18 = nI p ∧ (1 ≤ f ∧ f ≤ 3) ∧ TKN M
theorem GF_91 {m M : xM} {f : Nat → Int32} (h : GF m M) : GF m (xa M 91 f) := ⟨fun q h1 h2 => (xa_ne h2).trans (h.1 q h1 h2), h.2.1, h.2.2⟩
theorem GF_86 {m M : xM} {c : Nat → Int32} (h : GF m M) (hc : ∀ i, ¬ (12 ≤ i ∧ i ≤ 18) → c i = M.1 86 i) : GF m (xa M 86 c) := ⟨fun q h1 h2 => (xa_ne h1).trans (h.1 q h1 h2), h.2.1, fun i hi => (hc i hi).trans (h.2.2 i hi)⟩
theorem GB_91 {f p : Nat} {m M : xM} {g : Nat → Int32} (h : GB f p m M) : GB f p m (xa M 91 g) := ⟨GF_91 h.1, h.2⟩
theorem GO_91 {T : Tp} {a : Nat} {m M : xM} {F g : Nat → Int32} (h : GO T a m F M) : GO T a m g (xa M 91 g) := ⟨GF_91 h.1, h.2.1, h.2.2.1, h.2.2.2.1, rfl⟩
theorem GO_86 {T : Tp} {a b : Nat} {m M : xM} {F c : Nat → Int32} (h : GO T a m F M) (hb : b ≤ T.2) (h1 : mNX T c b) (h2 : ∀ i, ¬ (13 ≤ i ∧ i ≤ 16) → c i = M.1 86 i) : GO T b m F (xa M 86 c) := ⟨GF_86 h.1 (fun i hi => h2 i (by omega)), h.2.1, hb, ⟨(h2 12 (by omega)).trans h.2.2.2.1.1, h1, (h2 17 (by omega)).trans h.2.2.2.1.2.2⟩, h.2.2.2.2⟩
theorem GB_mk {T : Tp} {a f : Nat} {m M : xM} {F : Nat → Int32} (h : GO T a m F M) (hf : 1 ≤ f ∧ f ≤ 3) : GB f (tS T a) m (xa M 86 (upd (upd (M.1 86) 17 (nI f)) 18 (nI (tS T a)))) := ⟨GF_86 h.1 (fun i hi => by rw [upd_ne (by omega), upd_ne (by omega)]), rfl, rfl, hf, T, a, h.2.1, h.2.2.1, h.2.2.2.1.2.1⟩
theorem mkk_i {t u : Nat} (ht : t ≤ 4) (hu : u ≤ 4) : (nI (mkk t) = nI (mkk u)) = (t = u) := by
  have h1 : mkk t ≤ 4 ∧ mkk u ≤ 4 := by unfold mkk; constructor <;> split <;> omega
  rw [propext (nI_eq (a := mkk t) (b := mkk u) (by omega) (by omega))]
  apply propext
  unfold mkk
  split <;> split <;> omega
/-- a name's letters as one number -/
def wv (T : Tp) (s : Nat) : Nat → Nat
  | 0 => 0
  | i + 1 => wv T s i * 256 + T.1 (s + i)
def WV (T : Tp) (a : Nat) (v : Int64) : Prop := (v = 7562593) = tW T a 0 ∧ (v = 7173476) = tW T a 1 ∧ (v = 1651466612) = tW T a 2 ∧ (v = 1751215716) = tW T a 3
theorem wv_b {T : Tp} {s : Nat} : ∀ n, (∀ i, i < n → T.1 (s + i) < 256) → wv T s n < 256 ^ n
  | 0, _ => Nat.lt_succ_self 0
  | n + 1, h => by
    have h1 := wv_b (T := T) (s := s) n (fun i hi => h i (by omega))
    have h2 := h n (by omega)
    show wv T s n * 256 + T.1 (s + n) < 256 ^ (n + 1)
    rw [Nat.pow_succ]
    omega
theorem l8 {x c : Nat} (hx : x < 2 ^ 48) (hc : c < 256) : (lN x <<< ((8 : Int32).toInt64 &&& 63)) ||| (nI c).toInt64 = lN (x * 256 + c) := by
  rw [nI_l (by omega)]
  apply Int64.toBitVec_inj.mp
  rw [Int64.toBitVec_or, Int64.toBitVec_shiftLeft]
  apply BitVec.eq_of_toNat_eq
  have e : (((8 : Int32).toInt64 &&& 63).toBitVec.smod 64) = BitVec.ofNat 64 8 := by decide +kernel
  rw [e, BitVec.toNat_or, BitVec.shiftLeft_eq', BitVec.toNat_shiftLeft]
  show (BitVec.ofNat 64 x).toNat <<< (BitVec.ofNat 64 8).toNat % 2 ^ 64 ||| (BitVec.ofNat 64 c).toNat = (BitVec.ofNat 64 (x * 256 + c)).toNat
  rw [BitVec.toNat_ofNat, BitVec.toNat_ofNat, BitVec.toNat_ofNat, BitVec.toNat_ofNat, Nat.mod_eq_of_lt (show x < 2 ^ 64 by omega), Nat.mod_eq_of_lt (show c < 2 ^ 64 by omega), Nat.mod_eq_of_lt (show 8 < 2 ^ 64 by omega), Nat.mod_eq_of_lt (show x * 256 + c < 2 ^ 64 by omega)]
  have e2 : x <<< 8 = x * 256 := by rw [Nat.shiftLeft_eq]
  rw [e2, Nat.mod_eq_of_lt (show x * 256 < 2 ^ 64 by omega), ← e2, ← Nat.shiftLeft_add_eq_or_of_lt (show c < 2 ^ 8 by omega) x]
theorem all3 {P : Nat → Prop} : (∀ i, i < 3 → P i) ↔ P 0 ∧ P 1 ∧ P 2 := ⟨fun h => ⟨h 0 (by omega), h 1 (by omega), h 2 (by omega)⟩, fun h i hi => by
  rcases (by omega : i = 0 ∨ i = 1 ∨ i = 2) with e | e | e
  · rw [e]; exact h.1
  · rw [e]; exact h.2.1
  · rw [e]; exact h.2.2⟩
theorem all4 {P : Nat → Prop} : (∀ i, i < 4 → P i) ↔ P 0 ∧ P 1 ∧ P 2 ∧ P 3 := ⟨fun h => ⟨h 0 (by omega), h 1 (by omega), h 2 (by omega), h 3 (by omega)⟩, fun h i hi => by
  rcases (by omega : i = 0 ∨ i = 1 ∨ i = 2 ∨ i = 3) with e | e | e | e
  · rw [e]; exact h.1
  · rw [e]; exact h.2.1
  · rw [e]; exact h.2.2.1
  · rw [e]; exact h.2.2.2⟩

theorem wv_0 {T : Tp} {s n : Nat} (hn : n < 8) (hl : ∀ i, i < n → 97 ≤ T.1 (s + i) ∧ T.1 (s + i) ≤ 122) : (wv T s n = 7562593) ↔ (n = 3 ∧ T.1 (s + 0) = 115 ∧ T.1 (s + 1) = 101 ∧ T.1 (s + 2) = 97) := by
  rcases (by omega : n = 0 ∨ n = 1 ∨ n = 2 ∨ n = 3 ∨ n = 4 ∨ n = 5 ∨ n = 6 ∨ n = 7) with e | e | e | e | e | e | e | e <;> subst e
  · simp only [wv]
    omega
  · have l0 := hl 0 (by omega)
    simp only [wv]
    omega
  · have l0 := hl 0 (by omega)
    have l1 := hl 1 (by omega)
    simp only [wv]
    omega
  · have l0 := hl 0 (by omega)
    have l1 := hl 1 (by omega)
    have l2 := hl 2 (by omega)
    simp only [wv]
    constructor
    · intro h
      refine ⟨trivial, ?_, ?_, ?_⟩ <;> omega
    · rintro ⟨_, h0, h1, h2⟩
      omega
  · have l0 := hl 0 (by omega)
    have l1 := hl 1 (by omega)
    have l2 := hl 2 (by omega)
    have l3 := hl 3 (by omega)
    simp only [wv]
    omega
  · have l0 := hl 0 (by omega)
    have l1 := hl 1 (by omega)
    have l2 := hl 2 (by omega)
    have l3 := hl 3 (by omega)
    have l4 := hl 4 (by omega)
    simp only [wv]
    omega
  · have l0 := hl 0 (by omega)
    have l1 := hl 1 (by omega)
    have l2 := hl 2 (by omega)
    have l3 := hl 3 (by omega)
    have l4 := hl 4 (by omega)
    have l5 := hl 5 (by omega)
    simp only [wv]
    omega
  · have l0 := hl 0 (by omega)
    have l1 := hl 1 (by omega)
    have l2 := hl 2 (by omega)
    have l3 := hl 3 (by omega)
    have l4 := hl 4 (by omega)
    have l5 := hl 5 (by omega)
    have l6 := hl 6 (by omega)
    simp only [wv]
    omega

theorem wv_1 {T : Tp} {s n : Nat} (hn : n < 8) (hl : ∀ i, i < n → 97 ≤ T.1 (s + i) ∧ T.1 (s + i) ≤ 122) : (wv T s n = 7173476) ↔ (n = 3 ∧ T.1 (s + 0) = 109 ∧ T.1 (s + 1) = 117 ∧ T.1 (s + 2) = 100) := by
  rcases (by omega : n = 0 ∨ n = 1 ∨ n = 2 ∨ n = 3 ∨ n = 4 ∨ n = 5 ∨ n = 6 ∨ n = 7) with e | e | e | e | e | e | e | e <;> subst e
  · simp only [wv]
    omega
  · have l0 := hl 0 (by omega)
    simp only [wv]
    omega
  · have l0 := hl 0 (by omega)
    have l1 := hl 1 (by omega)
    simp only [wv]
    omega
  · have l0 := hl 0 (by omega)
    have l1 := hl 1 (by omega)
    have l2 := hl 2 (by omega)
    simp only [wv]
    constructor
    · intro h
      refine ⟨trivial, ?_, ?_, ?_⟩ <;> omega
    · rintro ⟨_, h0, h1, h2⟩
      omega
  · have l0 := hl 0 (by omega)
    have l1 := hl 1 (by omega)
    have l2 := hl 2 (by omega)
    have l3 := hl 3 (by omega)
    simp only [wv]
    omega
  · have l0 := hl 0 (by omega)
    have l1 := hl 1 (by omega)
    have l2 := hl 2 (by omega)
    have l3 := hl 3 (by omega)
    have l4 := hl 4 (by omega)
    simp only [wv]
    omega
  · have l0 := hl 0 (by omega)
    have l1 := hl 1 (by omega)
    have l2 := hl 2 (by omega)
    have l3 := hl 3 (by omega)
    have l4 := hl 4 (by omega)
    have l5 := hl 5 (by omega)
    simp only [wv]
    omega
  · have l0 := hl 0 (by omega)
    have l1 := hl 1 (by omega)
    have l2 := hl 2 (by omega)
    have l3 := hl 3 (by omega)
    have l4 := hl 4 (by omega)
    have l5 := hl 5 (by omega)
    have l6 := hl 6 (by omega)
    simp only [wv]
    omega

theorem wv_2 {T : Tp} {s n : Nat} (hn : n < 8) (hl : ∀ i, i < n → 97 ≤ T.1 (s + i) ∧ T.1 (s + i) ≤ 122) : (wv T s n = 1651466612) ↔ (n = 4 ∧ T.1 (s + 0) = 98 ∧ T.1 (s + 1) = 111 ∧ T.1 (s + 2) = 97 ∧ T.1 (s + 3) = 116) := by
  rcases (by omega : n = 0 ∨ n = 1 ∨ n = 2 ∨ n = 3 ∨ n = 4 ∨ n = 5 ∨ n = 6 ∨ n = 7) with e | e | e | e | e | e | e | e <;> subst e
  · simp only [wv]
    omega
  · have l0 := hl 0 (by omega)
    simp only [wv]
    omega
  · have l0 := hl 0 (by omega)
    have l1 := hl 1 (by omega)
    simp only [wv]
    omega
  · have l0 := hl 0 (by omega)
    have l1 := hl 1 (by omega)
    have l2 := hl 2 (by omega)
    simp only [wv]
    omega
  · have l0 := hl 0 (by omega)
    have l1 := hl 1 (by omega)
    have l2 := hl 2 (by omega)
    have l3 := hl 3 (by omega)
    simp only [wv]
    constructor
    · intro h
      refine ⟨trivial, ?_, ?_, ?_, ?_⟩ <;> omega
    · rintro ⟨_, h0, h1, h2, h3⟩
      omega
  · have l0 := hl 0 (by omega)
    have l1 := hl 1 (by omega)
    have l2 := hl 2 (by omega)
    have l3 := hl 3 (by omega)
    have l4 := hl 4 (by omega)
    simp only [wv]
    omega
  · have l0 := hl 0 (by omega)
    have l1 := hl 1 (by omega)
    have l2 := hl 2 (by omega)
    have l3 := hl 3 (by omega)
    have l4 := hl 4 (by omega)
    have l5 := hl 5 (by omega)
    simp only [wv]
    omega
  · have l0 := hl 0 (by omega)
    have l1 := hl 1 (by omega)
    have l2 := hl 2 (by omega)
    have l3 := hl 3 (by omega)
    have l4 := hl 4 (by omega)
    have l5 := hl 5 (by omega)
    have l6 := hl 6 (by omega)
    simp only [wv]
    omega

theorem wv_3 {T : Tp} {s n : Nat} (hn : n < 8) (hl : ∀ i, i < n → 97 ≤ T.1 (s + i) ∧ T.1 (s + i) ≤ 122) : (wv T s n = 1751215716) ↔ (n = 4 ∧ T.1 (s + 0) = 104 ∧ T.1 (s + 1) = 97 ∧ T.1 (s + 2) = 110 ∧ T.1 (s + 3) = 100) := by
  rcases (by omega : n = 0 ∨ n = 1 ∨ n = 2 ∨ n = 3 ∨ n = 4 ∨ n = 5 ∨ n = 6 ∨ n = 7) with e | e | e | e | e | e | e | e <;> subst e
  · simp only [wv]
    omega
  · have l0 := hl 0 (by omega)
    simp only [wv]
    omega
  · have l0 := hl 0 (by omega)
    have l1 := hl 1 (by omega)
    simp only [wv]
    omega
  · have l0 := hl 0 (by omega)
    have l1 := hl 1 (by omega)
    have l2 := hl 2 (by omega)
    simp only [wv]
    omega
  · have l0 := hl 0 (by omega)
    have l1 := hl 1 (by omega)
    have l2 := hl 2 (by omega)
    have l3 := hl 3 (by omega)
    simp only [wv]
    constructor
    · intro h
      refine ⟨trivial, ?_, ?_, ?_, ?_⟩ <;> omega
    · rintro ⟨_, h0, h1, h2, h3⟩
      omega
  · have l0 := hl 0 (by omega)
    have l1 := hl 1 (by omega)
    have l2 := hl 2 (by omega)
    have l3 := hl 3 (by omega)
    have l4 := hl 4 (by omega)
    simp only [wv]
    omega
  · have l0 := hl 0 (by omega)
    have l1 := hl 1 (by omega)
    have l2 := hl 2 (by omega)
    have l3 := hl 3 (by omega)
    have l4 := hl 4 (by omega)
    have l5 := hl 5 (by omega)
    simp only [wv]
    omega
  · have l0 := hl 0 (by omega)
    have l1 := hl 1 (by omega)
    have l2 := hl 2 (by omega)
    have l3 := hl 3 (by omega)
    have l4 := hl 4 (by omega)
    have l5 := hl 5 (by omega)
    have l6 := hl 6 (by omega)
    simp only [wv]
    omega

theorem WV_n {T : Tp} {a : Nat} (hk : tK T a = 1) (hn : tE T a - tS T a < 8) (ha : a ≤ T.2) : WV T a (lN (wv T (tS T a) (tE T a - tS T a))) := by
  obtain ⟨_, e⟩ := tK_n hk
  have eb := (tE_b ha).1
  have hl : ∀ i, i < tE T a - tS T a → 97 ≤ T.1 (tS T a + i) ∧ T.1 (tS T a + i) ≤ 122 := fun i hi => tL_in (T := T) (s := tS T a) (i := i) (by omega)
  have hb : wv T (tS T a) (tE T a - tS T a) < 2 ^ 63 := by
    have h1 := wv_b (T := T) (s := tS T a) (tE T a - tS T a) (fun i hi => by have := (hl i hi).2; omega)
    have h2 : 256 ^ (tE T a - tS T a) ≤ 256 ^ 7 := Nat.pow_le_pow_right (by omega) (by omega)
    have h3 : (256 : Nat) ^ 7 < 2 ^ 63 := by decide
    omega
  have key : ∀ C : Nat, C < 2 ^ 63 → (lN (wv T (tS T a) (tE T a - tS T a)) = lN C) = (wv T (tS T a) (tE T a - tS T a) = C) := fun C hC => propext (pk_lEQ hb hC)
  refine ⟨?_, ?_, ?_, ?_⟩
  · rw [show (7562593 : Int64) = lN 7562593 from rfl, key _ (by decide)]
    apply propext
    rw [wv_0 hn hl]
    show _ ↔ (tK T a = 1 ∧ tE T a - tS T a = 3 ∧ ∀ i, i < 3 → T.1 (tS T a + i) = wdc 0 i)
    rw [all3]
    exact ⟨fun h => ⟨hk, h.1, h.2⟩, fun h => h.2⟩
  · rw [show (7173476 : Int64) = lN 7173476 from rfl, key _ (by decide)]
    apply propext
    rw [wv_1 hn hl]
    show _ ↔ (tK T a = 1 ∧ tE T a - tS T a = 3 ∧ ∀ i, i < 3 → T.1 (tS T a + i) = wdc 1 i)
    rw [all3]
    exact ⟨fun h => ⟨hk, h.1, h.2⟩, fun h => h.2⟩
  · rw [show (1651466612 : Int64) = lN 1651466612 from rfl, key _ (by decide)]
    apply propext
    rw [wv_2 hn hl]
    show _ ↔ (tK T a = 1 ∧ tE T a - tS T a = 4 ∧ ∀ i, i < 4 → T.1 (tS T a + i) = wdc 2 i)
    rw [all4]
    exact ⟨fun h => ⟨hk, h.1, h.2⟩, fun h => h.2⟩
  · rw [show (1751215716 : Int64) = lN 1751215716 from rfl, key _ (by decide)]
    apply propext
    rw [wv_3 hn hl]
    show _ ↔ (tK T a = 1 ∧ tE T a - tS T a = 4 ∧ ∀ i, i < 4 → T.1 (tS T a + i) = wdc 3 i)
    rw [all4]
    exact ⟨fun h => ⟨hk, h.1, h.2⟩, fun h => h.2⟩
theorem WV_z {T : Tp} {a : Nat} (h : ¬ (tK T a = 1 ∧ tE T a - tS T a < 8)) : WV T a 0 := by
  have n : ∀ q, ¬ tW T a q := fun q hq => h ⟨hq.1, by rw [hq.2.1]; have := (wln_4 q).1; omega⟩
  exact ⟨propext ⟨fun y => absurd y (by decide), fun y => absurd y (n 0)⟩, propext ⟨fun y => absurd y (by decide), fun y => absurd y (n 1)⟩, propext ⟨fun y => absurd y (by decide), fun y => absurd y (n 2)⟩, propext ⟨fun y => absurd y (by decide), fun y => absurd y (n 3)⟩⟩

theorem t160y {G : xG} {M : xM} {Q : xQt} {T : Tp} {a : Nat} (hT : tpM T M) (ha : a ≤ T.2) (hx : mNX T (M.1 86) a) (hq : M.1 86 17 = 0 → ∀ v, WV T a v → Q (some (.long v)) M) (hq0 : ¬ M.1 86 17 = 0 → Q (some (.long 0)) M) : Tri G 160 [.ref 86] M Q := by
  obtain ⟨g13, g14, g15, g16⟩ := hx
  obtain ⟨eb1, eb2⟩ := tE_b ha
  have hT2 := hT.1
  have k4 := tK_4 T a
  by_cases g17 : M.1 86 17 = 0
  · refine tri_vc (ls := [.ref 86, .null, .null, .null]) (by decide +kernel) rfl (Nat.le_of_ble_eq_true rfl) ?_
    refine vc_seq (pc1 := 7) (ls1 := [.ref 86, .long 0, .null, .int (nI (tS T a))]) (m1 := M) (vc_wp (T := TT []) TTn (fun p => p == 7) (rt0 := some .long) rfl c160 rfl ?_) ?_
    · simp (disch := omega) only [i160, wp_iinc, wpE0, wpE1, wpE2, wpE3, wpE4, wpE5, wpJ, okS, lt4S, popR, litS, Int32.reduceLT, Int32.reduceLE, List.getElem?_cons_zero, List.getElem?_cons_succ, Bool.false_eq_true, ↓reduceIte, Nat.reduceMod, Nat.reduceDiv, Nat.reduceAdd, Nat.reduceSub, Nat.reduceMul, Nat.reduceLeDiff, Nat.reduceEqDiff, Nat.reduceBEq, Int.reduceToNat, Int.reduceAdd, Int32.reduceOfInt, Int64.reduceOfInt, Int32.reduceToNatClampNeg, Int32.reduceOfNat, Bool.or_self, Bool.or_false, Bool.false_or, Bool.true_or, Bool.or_true, true_and, and_true, false_and, and_false, List.set_cons_zero, List.set_cons_succ, List.take_succ_cons, List.take_zero, List.drop_succ_cons, List.drop_zero, List.reverse_cons, List.reverse_nil, List.nil_append, List.cons_append, List.length_cons, List.length_nil, Option.toList_some, Option.toList_none, not_true_eq_false, not_false_eq_true, forall_const, true_implies, false_implies, nrw, TTS, shM, shO, and01, bI_0, bI_and, isRl, cmpS, toLS, toL_le, toL_lt, i2lS, inM, Int64.reduceLE, Int64.reduceLT, xa_1, xa_2, xa_xa, upd_at, updU, linS, nI_add, nI_s2, clN, inN, inLS, Nat.reduceEqDiff, ↓reduceIte, not_true_eq_false, not_false_eq_true, and_true, true_and, and_false, false_and, and_self, or_true, true_or, or_false, false_or, ↓reduceIte, if_true, if_false, eq_self, g13, g14, g15, g16, g17, subS, Int64.reduceOfInt, not_true_eq_false, not_false_eq_true, and_true, true_and, and_false, false_and, and_self, or_true, true_or, or_false, false_or, ↓reduceIte, if_true, if_false, eq_self]
      decide
    have km : nI (mkk (tK T a)) = 2 ↔ tK T a = 1 := by
      have := mkk_i (t := tK T a) (u := 1) k4 (by omega)
      exact ⟨fun y => this.mp y, fun y => this.mpr y⟩
    by_cases c1 : tK T a = 1 ∧ tE T a - tS T a < 8
    · have z1 : nI (mkk (tK T a)) = 2 := km.mpr c1.1
      have z2 : ¬ 8 ≤ nI (tE T a) - nI (tS T a) := by rw [nI_sub eb1]; exact nI_ge (b := 8) c1.2 (by omega)
      have z2' : nI (tE T a) - nI (tS T a) < 8 := Int32.not_le.mp z2
      have hq' := hq g17 _ (WV_n c1.1 c1.2 ha)
      obtain ⟨n, hn⟩ : ∃ n, n = tE T a - tS T a := ⟨_, rfl⟩
      rw [← hn] at hq'
      have hch : ∀ i, i < n → T.1 (tS T a + i) < 256 := fun i hi => (hT.2 (tS T a + i) (by omega)).2
      refine vc_for n (fun i => [.ref 86, .long (lN (wv T (tS T a) i)), .null, .int (nI (tS T a + i))]) (fun _ => M) (fun i hi => ?_) ?_
      · have hi2 : ¬ nI (tE T a) ≤ nI (tS T a + i) := nI_ge (by omega) (by omega)
        have hi3 : nI (tS T a + i) < nI (tE T a) := Int32.not_le.mp hi2
        have hin : vp_in (nI (tS T a + i)) 400 := xin_nI (by omega) (by omega)
        obtain ⟨hb, hb2⟩ := hT.2 (tS T a + i) (by omega)
        have hw : wv T (tS T a) i < 2 ^ 48 := by
          have h1 := wv_b (T := T) (s := tS T a) i (fun j hj => hch j (by omega))
          have h2 : 256 ^ i ≤ 256 ^ 6 := Nat.pow_le_pow_right (by omega) (by omega)
          have h3 : (256 : Nat) ^ 6 = 2 ^ 48 := by decide
          omega
        have hl := l8 hw hb2
        refine vc_wp (T := TT []) TTn (fun _ => false) (rt0 := some .long) rfl (ckl_drop 5 c160) rfl ?_
        simp (disch := omega) only [List.drop, i160, wp_iinc, wpE0, wpE1, wpE2, wpE3, wpE4, wpE5, wpJ, okS, lt4S, popR, litS, Int32.reduceLT, Int32.reduceLE, List.getElem?_cons_zero, List.getElem?_cons_succ, Bool.false_eq_true, ↓reduceIte, Nat.reduceMod, Nat.reduceDiv, Nat.reduceAdd, Nat.reduceSub, Nat.reduceMul, Nat.reduceLeDiff, Nat.reduceEqDiff, Nat.reduceBEq, Int.reduceToNat, Int.reduceAdd, Int32.reduceOfInt, Int64.reduceOfInt, Int32.reduceToNatClampNeg, Int32.reduceOfNat, Bool.or_self, Bool.or_false, Bool.false_or, Bool.true_or, Bool.or_true, true_and, and_true, false_and, and_false, List.set_cons_zero, List.set_cons_succ, List.take_succ_cons, List.take_zero, List.drop_succ_cons, List.drop_zero, List.reverse_cons, List.reverse_nil, List.nil_append, List.cons_append, List.length_cons, List.length_nil, Option.toList_some, Option.toList_none, not_true_eq_false, not_false_eq_true, forall_const, true_implies, false_implies, nrw, TTS, shM, shO, and01, bI_0, bI_and, isRl, cmpS, toLS, toL_le, toL_lt, i2lS, inM, Int64.reduceLE, Int64.reduceLT, xa_1, xa_2, xa_xa, upd_at, updU, linS, nI_add, nI_s2, clN, inN, inLS, Nat.reduceEqDiff, ↓reduceIte, not_true_eq_false, not_false_eq_true, and_true, true_and, and_false, false_and, and_self, or_true, true_or, or_false, false_or, ↓reduceIte, if_true, if_false, eq_self, g13, g14, g15, g16, g17, z1, z2, z2', hi2, hi3, hin, hb, hl, Nat.add_assoc, subS, nI_1, not_true_eq_false, not_false_eq_true, and_true, true_and, and_false, false_and, and_self, or_true, true_or, or_false, false_or, ↓reduceIte, if_true, if_false, eq_self]
        exact ⟨by decide, rfl⟩
      · have hi2 : nI (tE T a) ≤ nI (tS T a + n) := nI_le (by omega) (by omega)
        have hi3 : ¬ nI (tS T a + n) < nI (tE T a) := Int32.not_lt.mpr hi2
        refine vc_wp (T := TT []) TTn (fun _ => false) (rt0 := some .long) rfl (ckl_drop 5 c160) rfl ?_
        simp (disch := omega) only [List.drop, i160, wp_iinc, wpE0, wpE1, wpE2, wpE3, wpE4, wpE5, wpJ, okS, lt4S, popR, litS, Int32.reduceLT, Int32.reduceLE, List.getElem?_cons_zero, List.getElem?_cons_succ, Bool.false_eq_true, ↓reduceIte, Nat.reduceMod, Nat.reduceDiv, Nat.reduceAdd, Nat.reduceSub, Nat.reduceMul, Nat.reduceLeDiff, Nat.reduceEqDiff, Nat.reduceBEq, Int.reduceToNat, Int.reduceAdd, Int32.reduceOfInt, Int64.reduceOfInt, Int32.reduceToNatClampNeg, Int32.reduceOfNat, Bool.or_self, Bool.or_false, Bool.false_or, Bool.true_or, Bool.or_true, true_and, and_true, false_and, and_false, List.set_cons_zero, List.set_cons_succ, List.take_succ_cons, List.take_zero, List.drop_succ_cons, List.drop_zero, List.reverse_cons, List.reverse_nil, List.nil_append, List.cons_append, List.length_cons, List.length_nil, Option.toList_some, Option.toList_none, not_true_eq_false, not_false_eq_true, forall_const, true_implies, false_implies, nrw, TTS, shM, shO, and01, bI_0, bI_and, isRl, cmpS, toLS, toL_le, toL_lt, i2lS, inM, Int64.reduceLE, Int64.reduceLT, xa_1, xa_2, xa_xa, upd_at, updU, linS, nI_add, nI_s2, clN, inN, inLS, Nat.reduceEqDiff, ↓reduceIte, not_true_eq_false, not_false_eq_true, and_true, true_and, and_false, false_and, and_self, or_true, true_or, or_false, false_or, ↓reduceIte, if_true, if_false, eq_self, g13, g14, g15, g16, g17, hi2, hi3, subS, nI_1, not_true_eq_false, not_false_eq_true, and_true, true_and, and_false, false_and, and_self, or_true, true_or, or_false, false_or, ↓reduceIte, if_true, if_false, eq_self]
        exact hq'
    · have hq' := hq g17 0 (WV_z c1)
      by_cases y : tE T a ≤ tS T a
      · have hi2 : nI (tE T a) ≤ nI (tS T a) := nI_le y (by omega)
        have hi3 : ¬ nI (tS T a) < nI (tE T a) := Int32.not_lt.mpr hi2
        refine vc_wp (T := TT []) TTn (fun _ => false) (rt0 := some .long) rfl (ckl_drop 5 c160) rfl ?_
        simp (disch := omega) only [List.drop, i160, wp_iinc, wpE0, wpE1, wpE2, wpE3, wpE4, wpE5, wpJ, okS, lt4S, popR, litS, Int32.reduceLT, Int32.reduceLE, List.getElem?_cons_zero, List.getElem?_cons_succ, Bool.false_eq_true, ↓reduceIte, Nat.reduceMod, Nat.reduceDiv, Nat.reduceAdd, Nat.reduceSub, Nat.reduceMul, Nat.reduceLeDiff, Nat.reduceEqDiff, Nat.reduceBEq, Int.reduceToNat, Int.reduceAdd, Int32.reduceOfInt, Int64.reduceOfInt, Int32.reduceToNatClampNeg, Int32.reduceOfNat, Bool.or_self, Bool.or_false, Bool.false_or, Bool.true_or, Bool.or_true, true_and, and_true, false_and, and_false, List.set_cons_zero, List.set_cons_succ, List.take_succ_cons, List.take_zero, List.drop_succ_cons, List.drop_zero, List.reverse_cons, List.reverse_nil, List.nil_append, List.cons_append, List.length_cons, List.length_nil, Option.toList_some, Option.toList_none, not_true_eq_false, not_false_eq_true, forall_const, true_implies, false_implies, nrw, TTS, shM, shO, and01, bI_0, bI_and, isRl, cmpS, toLS, toL_le, toL_lt, i2lS, inM, Int64.reduceLE, Int64.reduceLT, xa_1, xa_2, xa_xa, upd_at, updU, linS, nI_add, nI_s2, clN, inN, inLS, Nat.reduceEqDiff, ↓reduceIte, not_true_eq_false, not_false_eq_true, and_true, true_and, and_false, false_and, and_self, or_true, true_or, or_false, false_or, ↓reduceIte, if_true, if_false, eq_self, g13, g14, g15, g16, g17, hi2, hi3, Int64.reduceOfInt, subS, nI_1, not_true_eq_false, not_false_eq_true, and_true, true_and, and_false, false_and, and_self, or_true, true_or, or_false, false_or, ↓reduceIte, if_true, if_false, eq_self]
        exact hq'
      · have hi2 : ¬ nI (tE T a) ≤ nI (tS T a) := nI_ge (by omega) (by omega)
        have hi3 : nI (tS T a) < nI (tE T a) := Int32.not_le.mp hi2
        by_cases c2 : tK T a = 1
        · have z1 : nI (mkk (tK T a)) = 2 := km.mpr c2
          have z2 : 8 ≤ nI (tE T a) - nI (tS T a) := by rw [nI_sub eb1]; exact nI_le (a := 8) (by omega) (by omega)
          have z2' : ¬ nI (tE T a) - nI (tS T a) < 8 := Int32.not_lt.mpr z2
          refine vc_wp (T := TT []) TTn (fun _ => false) (rt0 := some .long) rfl (ckl_drop 5 c160) rfl ?_
          simp (disch := omega) only [List.drop, i160, wp_iinc, wpE0, wpE1, wpE2, wpE3, wpE4, wpE5, wpJ, okS, lt4S, popR, litS, Int32.reduceLT, Int32.reduceLE, List.getElem?_cons_zero, List.getElem?_cons_succ, Bool.false_eq_true, ↓reduceIte, Nat.reduceMod, Nat.reduceDiv, Nat.reduceAdd, Nat.reduceSub, Nat.reduceMul, Nat.reduceLeDiff, Nat.reduceEqDiff, Nat.reduceBEq, Int.reduceToNat, Int.reduceAdd, Int32.reduceOfInt, Int64.reduceOfInt, Int32.reduceToNatClampNeg, Int32.reduceOfNat, Bool.or_self, Bool.or_false, Bool.false_or, Bool.true_or, Bool.or_true, true_and, and_true, false_and, and_false, List.set_cons_zero, List.set_cons_succ, List.take_succ_cons, List.take_zero, List.drop_succ_cons, List.drop_zero, List.reverse_cons, List.reverse_nil, List.nil_append, List.cons_append, List.length_cons, List.length_nil, Option.toList_some, Option.toList_none, not_true_eq_false, not_false_eq_true, forall_const, true_implies, false_implies, nrw, TTS, shM, shO, and01, bI_0, bI_and, isRl, cmpS, toLS, toL_le, toL_lt, i2lS, inM, Int64.reduceLE, Int64.reduceLT, xa_1, xa_2, xa_xa, upd_at, updU, linS, nI_add, nI_s2, clN, inN, inLS, Nat.reduceEqDiff, ↓reduceIte, not_true_eq_false, not_false_eq_true, and_true, true_and, and_false, false_and, and_self, or_true, true_or, or_false, false_or, ↓reduceIte, if_true, if_false, eq_self, g13, g14, g15, g16, g17, hi2, hi3, z1, z2, z2', Int64.reduceOfInt, subS, nI_1, not_true_eq_false, not_false_eq_true, and_true, true_and, and_false, false_and, and_self, or_true, true_or, or_false, false_or, ↓reduceIte, if_true, if_false, eq_self]
          exact hq'
        · have z1 : ¬ nI (mkk (tK T a)) = 2 := fun y => c2 (km.mp y)
          refine vc_wp (T := TT []) TTn (fun _ => false) (rt0 := some .long) rfl (ckl_drop 5 c160) rfl ?_
          simp (disch := omega) only [List.drop, i160, wp_iinc, wpE0, wpE1, wpE2, wpE3, wpE4, wpE5, wpJ, okS, lt4S, popR, litS, Int32.reduceLT, Int32.reduceLE, List.getElem?_cons_zero, List.getElem?_cons_succ, Bool.false_eq_true, ↓reduceIte, Nat.reduceMod, Nat.reduceDiv, Nat.reduceAdd, Nat.reduceSub, Nat.reduceMul, Nat.reduceLeDiff, Nat.reduceEqDiff, Nat.reduceBEq, Int.reduceToNat, Int.reduceAdd, Int32.reduceOfInt, Int64.reduceOfInt, Int32.reduceToNatClampNeg, Int32.reduceOfNat, Bool.or_self, Bool.or_false, Bool.false_or, Bool.true_or, Bool.or_true, true_and, and_true, false_and, and_false, List.set_cons_zero, List.set_cons_succ, List.take_succ_cons, List.take_zero, List.drop_succ_cons, List.drop_zero, List.reverse_cons, List.reverse_nil, List.nil_append, List.cons_append, List.length_cons, List.length_nil, Option.toList_some, Option.toList_none, not_true_eq_false, not_false_eq_true, forall_const, true_implies, false_implies, nrw, TTS, shM, shO, and01, bI_0, bI_and, isRl, cmpS, toLS, toL_le, toL_lt, i2lS, inM, Int64.reduceLE, Int64.reduceLT, xa_1, xa_2, xa_xa, upd_at, updU, linS, nI_add, nI_s2, clN, inN, inLS, Nat.reduceEqDiff, ↓reduceIte, not_true_eq_false, not_false_eq_true, and_true, true_and, and_false, false_and, and_self, or_true, true_or, or_false, false_or, ↓reduceIte, if_true, if_false, eq_self, g13, g14, g15, g16, g17, hi2, hi3, z1, Int64.reduceOfInt, subS, nI_1, not_true_eq_false, not_false_eq_true, and_true, true_and, and_false, false_and, and_self, or_true, true_or, or_false, false_or, ↓reduceIte, if_true, if_false, eq_self]
          exact hq'

  · refine tri_vc (ls := [.ref 86, .null, .null, .null]) (by decide +kernel) rfl (Nat.le_of_ble_eq_true rfl) ?_
    refine vc_seq (pc1 := 7) (ls1 := [.ref 86, .long 0, .null, .int (nI (tS T a))]) (m1 := M) (vc_wp (T := TT []) TTn (fun p => p == 7) (rt0 := some .long) rfl c160 rfl ?_) ?_
    · simp (disch := omega) only [i160, wp_iinc, wpE0, wpE1, wpE2, wpE3, wpE4, wpE5, wpJ, okS, lt4S, popR, litS, Int32.reduceLT, Int32.reduceLE, List.getElem?_cons_zero, List.getElem?_cons_succ, Bool.false_eq_true, ↓reduceIte, Nat.reduceMod, Nat.reduceDiv, Nat.reduceAdd, Nat.reduceSub, Nat.reduceMul, Nat.reduceLeDiff, Nat.reduceEqDiff, Nat.reduceBEq, Int.reduceToNat, Int.reduceAdd, Int32.reduceOfInt, Int64.reduceOfInt, Int32.reduceToNatClampNeg, Int32.reduceOfNat, Bool.or_self, Bool.or_false, Bool.false_or, Bool.true_or, Bool.or_true, true_and, and_true, false_and, and_false, List.set_cons_zero, List.set_cons_succ, List.take_succ_cons, List.take_zero, List.drop_succ_cons, List.drop_zero, List.reverse_cons, List.reverse_nil, List.nil_append, List.cons_append, List.length_cons, List.length_nil, Option.toList_some, Option.toList_none, not_true_eq_false, not_false_eq_true, forall_const, true_implies, false_implies, nrw, TTS, shM, shO, and01, bI_0, bI_and, isRl, cmpS, toLS, toL_le, toL_lt, i2lS, inM, Int64.reduceLE, Int64.reduceLT, xa_1, xa_2, xa_xa, upd_at, updU, linS, nI_add, nI_s2, clN, inN, inLS, Nat.reduceEqDiff, ↓reduceIte, not_true_eq_false, not_false_eq_true, and_true, true_and, and_false, false_and, and_self, or_true, true_or, or_false, false_or, ↓reduceIte, if_true, if_false, eq_self, g13, g14, g15, g16, g17, subS, Int64.reduceOfInt, not_true_eq_false, not_false_eq_true, and_true, true_and, and_false, false_and, and_self, or_true, true_or, or_false, false_or, ↓reduceIte, if_true, if_false, eq_self]
      decide
    have km : nI (mkk (tK T a)) = 2 ↔ tK T a = 1 := by
      have := mkk_i (t := tK T a) (u := 1) k4 (by omega)
      exact ⟨fun y => this.mp y, fun y => this.mpr y⟩
    by_cases c1 : tK T a = 1 ∧ tE T a - tS T a < 8
    · have z1 : nI (mkk (tK T a)) = 2 := km.mpr c1.1
      have z2 : ¬ 8 ≤ nI (tE T a) - nI (tS T a) := by rw [nI_sub eb1]; exact nI_ge (b := 8) c1.2 (by omega)
      have z2' : nI (tE T a) - nI (tS T a) < 8 := Int32.not_le.mp z2
      have hq' := hq0 g17
      obtain ⟨n, hn⟩ : ∃ n, n = tE T a - tS T a := ⟨_, rfl⟩
      have hch : ∀ i, i < n → T.1 (tS T a + i) < 256 := fun i hi => (hT.2 (tS T a + i) (by omega)).2
      refine vc_for n (fun i => [.ref 86, .long (lN (wv T (tS T a) i)), .null, .int (nI (tS T a + i))]) (fun _ => M) (fun i hi => ?_) ?_
      · have hi2 : ¬ nI (tE T a) ≤ nI (tS T a + i) := nI_ge (by omega) (by omega)
        have hi3 : nI (tS T a + i) < nI (tE T a) := Int32.not_le.mp hi2
        have hin : vp_in (nI (tS T a + i)) 400 := xin_nI (by omega) (by omega)
        obtain ⟨hb, hb2⟩ := hT.2 (tS T a + i) (by omega)
        have hw : wv T (tS T a) i < 2 ^ 48 := by
          have h1 := wv_b (T := T) (s := tS T a) i (fun j hj => hch j (by omega))
          have h2 : 256 ^ i ≤ 256 ^ 6 := Nat.pow_le_pow_right (by omega) (by omega)
          have h3 : (256 : Nat) ^ 6 = 2 ^ 48 := by decide
          omega
        have hl := l8 hw hb2
        refine vc_wp (T := TT []) TTn (fun _ => false) (rt0 := some .long) rfl (ckl_drop 5 c160) rfl ?_
        simp (disch := omega) only [List.drop, i160, wp_iinc, wpE0, wpE1, wpE2, wpE3, wpE4, wpE5, wpJ, okS, lt4S, popR, litS, Int32.reduceLT, Int32.reduceLE, List.getElem?_cons_zero, List.getElem?_cons_succ, Bool.false_eq_true, ↓reduceIte, Nat.reduceMod, Nat.reduceDiv, Nat.reduceAdd, Nat.reduceSub, Nat.reduceMul, Nat.reduceLeDiff, Nat.reduceEqDiff, Nat.reduceBEq, Int.reduceToNat, Int.reduceAdd, Int32.reduceOfInt, Int64.reduceOfInt, Int32.reduceToNatClampNeg, Int32.reduceOfNat, Bool.or_self, Bool.or_false, Bool.false_or, Bool.true_or, Bool.or_true, true_and, and_true, false_and, and_false, List.set_cons_zero, List.set_cons_succ, List.take_succ_cons, List.take_zero, List.drop_succ_cons, List.drop_zero, List.reverse_cons, List.reverse_nil, List.nil_append, List.cons_append, List.length_cons, List.length_nil, Option.toList_some, Option.toList_none, not_true_eq_false, not_false_eq_true, forall_const, true_implies, false_implies, nrw, TTS, shM, shO, and01, bI_0, bI_and, isRl, cmpS, toLS, toL_le, toL_lt, i2lS, inM, Int64.reduceLE, Int64.reduceLT, xa_1, xa_2, xa_xa, upd_at, updU, linS, nI_add, nI_s2, clN, inN, inLS, Nat.reduceEqDiff, ↓reduceIte, not_true_eq_false, not_false_eq_true, and_true, true_and, and_false, false_and, and_self, or_true, true_or, or_false, false_or, ↓reduceIte, if_true, if_false, eq_self, g13, g14, g15, g16, g17, z1, z2, z2', hi2, hi3, hin, hb, hl, Nat.add_assoc, subS, nI_1, not_true_eq_false, not_false_eq_true, and_true, true_and, and_false, false_and, and_self, or_true, true_or, or_false, false_or, ↓reduceIte, if_true, if_false, eq_self]
        exact ⟨by decide, rfl⟩
      · have hi2 : nI (tE T a) ≤ nI (tS T a + n) := nI_le (by omega) (by omega)
        have hi3 : ¬ nI (tS T a + n) < nI (tE T a) := Int32.not_lt.mpr hi2
        refine vc_wp (T := TT []) TTn (fun _ => false) (rt0 := some .long) rfl (ckl_drop 5 c160) rfl ?_
        simp (disch := omega) only [List.drop, i160, wp_iinc, wpE0, wpE1, wpE2, wpE3, wpE4, wpE5, wpJ, okS, lt4S, popR, litS, Int32.reduceLT, Int32.reduceLE, List.getElem?_cons_zero, List.getElem?_cons_succ, Bool.false_eq_true, ↓reduceIte, Nat.reduceMod, Nat.reduceDiv, Nat.reduceAdd, Nat.reduceSub, Nat.reduceMul, Nat.reduceLeDiff, Nat.reduceEqDiff, Nat.reduceBEq, Int.reduceToNat, Int.reduceAdd, Int32.reduceOfInt, Int64.reduceOfInt, Int32.reduceToNatClampNeg, Int32.reduceOfNat, Bool.or_self, Bool.or_false, Bool.false_or, Bool.true_or, Bool.or_true, true_and, and_true, false_and, and_false, List.set_cons_zero, List.set_cons_succ, List.take_succ_cons, List.take_zero, List.drop_succ_cons, List.drop_zero, List.reverse_cons, List.reverse_nil, List.nil_append, List.cons_append, List.length_cons, List.length_nil, Option.toList_some, Option.toList_none, not_true_eq_false, not_false_eq_true, forall_const, true_implies, false_implies, nrw, TTS, shM, shO, and01, bI_0, bI_and, isRl, cmpS, toLS, toL_le, toL_lt, i2lS, inM, Int64.reduceLE, Int64.reduceLT, xa_1, xa_2, xa_xa, upd_at, updU, linS, nI_add, nI_s2, clN, inN, inLS, Nat.reduceEqDiff, ↓reduceIte, not_true_eq_false, not_false_eq_true, and_true, true_and, and_false, false_and, and_self, or_true, true_or, or_false, false_or, ↓reduceIte, if_true, if_false, eq_self, g13, g14, g15, g16, g17, hi2, hi3, subS, nI_1, not_true_eq_false, not_false_eq_true, and_true, true_and, and_false, false_and, and_self, or_true, true_or, or_false, false_or, ↓reduceIte, if_true, if_false, eq_self]
        exact hq'
    · have hq' := hq0 g17
      by_cases y : tE T a ≤ tS T a
      · have hi2 : nI (tE T a) ≤ nI (tS T a) := nI_le y (by omega)
        have hi3 : ¬ nI (tS T a) < nI (tE T a) := Int32.not_lt.mpr hi2
        refine vc_wp (T := TT []) TTn (fun _ => false) (rt0 := some .long) rfl (ckl_drop 5 c160) rfl ?_
        simp (disch := omega) only [List.drop, i160, wp_iinc, wpE0, wpE1, wpE2, wpE3, wpE4, wpE5, wpJ, okS, lt4S, popR, litS, Int32.reduceLT, Int32.reduceLE, List.getElem?_cons_zero, List.getElem?_cons_succ, Bool.false_eq_true, ↓reduceIte, Nat.reduceMod, Nat.reduceDiv, Nat.reduceAdd, Nat.reduceSub, Nat.reduceMul, Nat.reduceLeDiff, Nat.reduceEqDiff, Nat.reduceBEq, Int.reduceToNat, Int.reduceAdd, Int32.reduceOfInt, Int64.reduceOfInt, Int32.reduceToNatClampNeg, Int32.reduceOfNat, Bool.or_self, Bool.or_false, Bool.false_or, Bool.true_or, Bool.or_true, true_and, and_true, false_and, and_false, List.set_cons_zero, List.set_cons_succ, List.take_succ_cons, List.take_zero, List.drop_succ_cons, List.drop_zero, List.reverse_cons, List.reverse_nil, List.nil_append, List.cons_append, List.length_cons, List.length_nil, Option.toList_some, Option.toList_none, not_true_eq_false, not_false_eq_true, forall_const, true_implies, false_implies, nrw, TTS, shM, shO, and01, bI_0, bI_and, isRl, cmpS, toLS, toL_le, toL_lt, i2lS, inM, Int64.reduceLE, Int64.reduceLT, xa_1, xa_2, xa_xa, upd_at, updU, linS, nI_add, nI_s2, clN, inN, inLS, Nat.reduceEqDiff, ↓reduceIte, not_true_eq_false, not_false_eq_true, and_true, true_and, and_false, false_and, and_self, or_true, true_or, or_false, false_or, ↓reduceIte, if_true, if_false, eq_self, g13, g14, g15, g16, g17, hi2, hi3, Int64.reduceOfInt, subS, nI_1, not_true_eq_false, not_false_eq_true, and_true, true_and, and_false, false_and, and_self, or_true, true_or, or_false, false_or, ↓reduceIte, if_true, if_false, eq_self]
        exact hq'
      · have hi2 : ¬ nI (tE T a) ≤ nI (tS T a) := nI_ge (by omega) (by omega)
        have hi3 : nI (tS T a) < nI (tE T a) := Int32.not_le.mp hi2
        by_cases c2 : tK T a = 1
        · have z1 : nI (mkk (tK T a)) = 2 := km.mpr c2
          have z2 : 8 ≤ nI (tE T a) - nI (tS T a) := by rw [nI_sub eb1]; exact nI_le (a := 8) (by omega) (by omega)
          have z2' : ¬ nI (tE T a) - nI (tS T a) < 8 := Int32.not_lt.mpr z2
          refine vc_wp (T := TT []) TTn (fun _ => false) (rt0 := some .long) rfl (ckl_drop 5 c160) rfl ?_
          simp (disch := omega) only [List.drop, i160, wp_iinc, wpE0, wpE1, wpE2, wpE3, wpE4, wpE5, wpJ, okS, lt4S, popR, litS, Int32.reduceLT, Int32.reduceLE, List.getElem?_cons_zero, List.getElem?_cons_succ, Bool.false_eq_true, ↓reduceIte, Nat.reduceMod, Nat.reduceDiv, Nat.reduceAdd, Nat.reduceSub, Nat.reduceMul, Nat.reduceLeDiff, Nat.reduceEqDiff, Nat.reduceBEq, Int.reduceToNat, Int.reduceAdd, Int32.reduceOfInt, Int64.reduceOfInt, Int32.reduceToNatClampNeg, Int32.reduceOfNat, Bool.or_self, Bool.or_false, Bool.false_or, Bool.true_or, Bool.or_true, true_and, and_true, false_and, and_false, List.set_cons_zero, List.set_cons_succ, List.take_succ_cons, List.take_zero, List.drop_succ_cons, List.drop_zero, List.reverse_cons, List.reverse_nil, List.nil_append, List.cons_append, List.length_cons, List.length_nil, Option.toList_some, Option.toList_none, not_true_eq_false, not_false_eq_true, forall_const, true_implies, false_implies, nrw, TTS, shM, shO, and01, bI_0, bI_and, isRl, cmpS, toLS, toL_le, toL_lt, i2lS, inM, Int64.reduceLE, Int64.reduceLT, xa_1, xa_2, xa_xa, upd_at, updU, linS, nI_add, nI_s2, clN, inN, inLS, Nat.reduceEqDiff, ↓reduceIte, not_true_eq_false, not_false_eq_true, and_true, true_and, and_false, false_and, and_self, or_true, true_or, or_false, false_or, ↓reduceIte, if_true, if_false, eq_self, g13, g14, g15, g16, g17, hi2, hi3, z1, z2, z2', Int64.reduceOfInt, subS, nI_1, not_true_eq_false, not_false_eq_true, and_true, true_and, and_false, false_and, and_self, or_true, true_or, or_false, false_or, ↓reduceIte, if_true, if_false, eq_self]
          exact hq'
        · have z1 : ¬ nI (mkk (tK T a)) = 2 := fun y => c2 (km.mp y)
          refine vc_wp (T := TT []) TTn (fun _ => false) (rt0 := some .long) rfl (ckl_drop 5 c160) rfl ?_
          simp (disch := omega) only [List.drop, i160, wp_iinc, wpE0, wpE1, wpE2, wpE3, wpE4, wpE5, wpJ, okS, lt4S, popR, litS, Int32.reduceLT, Int32.reduceLE, List.getElem?_cons_zero, List.getElem?_cons_succ, Bool.false_eq_true, ↓reduceIte, Nat.reduceMod, Nat.reduceDiv, Nat.reduceAdd, Nat.reduceSub, Nat.reduceMul, Nat.reduceLeDiff, Nat.reduceEqDiff, Nat.reduceBEq, Int.reduceToNat, Int.reduceAdd, Int32.reduceOfInt, Int64.reduceOfInt, Int32.reduceToNatClampNeg, Int32.reduceOfNat, Bool.or_self, Bool.or_false, Bool.false_or, Bool.true_or, Bool.or_true, true_and, and_true, false_and, and_false, List.set_cons_zero, List.set_cons_succ, List.take_succ_cons, List.take_zero, List.drop_succ_cons, List.drop_zero, List.reverse_cons, List.reverse_nil, List.nil_append, List.cons_append, List.length_cons, List.length_nil, Option.toList_some, Option.toList_none, not_true_eq_false, not_false_eq_true, forall_const, true_implies, false_implies, nrw, TTS, shM, shO, and01, bI_0, bI_and, isRl, cmpS, toLS, toL_le, toL_lt, i2lS, inM, Int64.reduceLE, Int64.reduceLT, xa_1, xa_2, xa_xa, upd_at, updU, linS, nI_add, nI_s2, clN, inN, inLS, Nat.reduceEqDiff, ↓reduceIte, not_true_eq_false, not_false_eq_true, and_true, true_and, and_false, false_and, and_self, or_true, true_or, or_false, false_or, ↓reduceIte, if_true, if_false, eq_self, g13, g14, g15, g16, g17, hi2, hi3, z1, Int64.reduceOfInt, subS, nI_1, not_true_eq_false, not_false_eq_true, and_true, true_and, and_false, false_and, and_self, or_true, true_or, or_false, false_or, ↓reduceIte, if_true, if_false, eq_self]
          exact hq'



theorem t160x {G : xG} {m M : xM} {F : Nat → Int32} {Q : xQt} {T : Tp} {a : Nat} (hg : GO T a m F M) (hq : ∀ v, WV T a v → Q (some (.long v)) M) : Tri G 160 [.ref 86] M Q := t160y hg.2.1 hg.2.2.1 hg.2.2.2.1.2.1 (fun _ => hq) (fun h => absurd hg.2.2.2.1.2.2 h)
theorem t160b {G : xG} {M : xM} {Q : xQt} {f : Nat} (h17 : M.1 86 17 = nI f) (hf : 1 ≤ f ∧ f ≤ 3) (ht : TKN M) (hq : Q (some (.long 0)) M) : Tri G 160 [.ref 86] M Q := by
  obtain ⟨T, a, h1, h2, h3⟩ := ht
  exact t160y h1 h2 h3 (fun h => absurd (h17.symm.trans h) (nI_ne0 (by omega) (by omega))) (fun _ => hq)

theorem t164x {G : xG} {m M : xM} {F : Nat → Int32} {Q : xQt} {T : Tp} {a : Nat} (hg : GO T a m F M) (hq : Q (some (.int (if tK T a = 2 then nI (tV T a) else nI 0))) M) : Tri G 164 [.ref 86] M Q := by
  obtain ⟨hGF, hT, ha, ⟨g12, ⟨g13, g14, g15, g16⟩, g17⟩, hF⟩ := hg
  obtain ⟨eb1, eb2⟩ := tE_b ha
  have hT2 := hT.1
  have k4 := tK_4 T a
  refine tri_vc (ls := [.ref 86, .null, .null]) (by decide +kernel) rfl (Nat.le_of_ble_eq_true rfl) ?_
  refine vc_seq (pc1 := 7) (ls1 := [.ref 86, .int (nI 0), .int (nI (tS T a))]) (m1 := M) (vc_wp (T := TT []) TTn (fun p => p == 7) (rt0 := some .int) rfl c164 rfl ?_) ?_
  · simp (disch := omega) only [i164, wp_iinc, wpE0, wpE1, wpE2, wpE3, wpE4, wpE5, wpJ, okS, lt4S, popR, litS, Int32.reduceLT, Int32.reduceLE, List.getElem?_cons_zero, List.getElem?_cons_succ, Bool.false_eq_true, ↓reduceIte, Nat.reduceMod, Nat.reduceDiv, Nat.reduceAdd, Nat.reduceSub, Nat.reduceMul, Nat.reduceLeDiff, Nat.reduceEqDiff, Nat.reduceBEq, Int.reduceToNat, Int.reduceAdd, Int32.reduceOfInt, Int64.reduceOfInt, Int32.reduceToNatClampNeg, Int32.reduceOfNat, Bool.or_self, Bool.or_false, Bool.false_or, Bool.true_or, Bool.or_true, true_and, and_true, false_and, and_false, List.set_cons_zero, List.set_cons_succ, List.take_succ_cons, List.take_zero, List.drop_succ_cons, List.drop_zero, List.reverse_cons, List.reverse_nil, List.nil_append, List.cons_append, List.length_cons, List.length_nil, Option.toList_some, Option.toList_none, not_true_eq_false, not_false_eq_true, forall_const, true_implies, false_implies, nrw, TTS, shM, shO, and01, bI_0, bI_and, isRl, cmpS, toLS, toL_le, toL_lt, i2lS, inM, Int64.reduceLE, Int64.reduceLT, xa_1, xa_2, xa_xa, upd_at, updU, linS, nI_add, nI_s2, clN, inN, inLS, Nat.reduceEqDiff, ↓reduceIte, not_true_eq_false, not_false_eq_true, and_true, true_and, and_false, false_and, and_self, or_true, true_or, or_false, false_or, ↓reduceIte, if_true, if_false, eq_self, g13, g14, g15, g16, g17, subS, not_true_eq_false, not_false_eq_true, and_true, true_and, and_false, false_and, and_self, or_true, true_or, or_false, false_or, ↓reduceIte, if_true, if_false, eq_self]
    rfl
  have km : nI (mkk (tK T a)) = 3 ↔ tK T a = 2 := by
    have := mkk_i (t := tK T a) (u := 2) k4 (by omega)
    exact ⟨fun y => this.mp y, fun y => this.mpr y⟩
  by_cases c1 : tK T a = 2
  · have z1 : nI (mkk (tK T a)) = 3 := km.mpr c1
    rw [if_pos c1] at hq
    unfold tV at hq
    obtain ⟨_, eF, _⟩ := tK_f c1
    obtain ⟨n, hn⟩ : ∃ n, n = tE T a - tS T a := ⟨_, rfl⟩
    rw [← hn] at hq
    refine vc_for n (fun i => [.ref 86, .int (nI (vl T (tS T a) i)), .int (nI (tS T a + i))]) (fun _ => M) (fun i hi => ?_) ?_
    · have hi2 : ¬ nI (tE T a) ≤ nI (tS T a + i) := nI_ge (by omega) (by omega)
      have hi3 : nI (tS T a + i) < nI (tE T a) := Int32.not_le.mp hi2
      have hin : vp_in (nI (tS T a + i)) 400 := xin_nI (by omega) (by omega)
      obtain ⟨hb, hb2⟩ := hT.2 (tS T a + i) (by omega)
      have hfg := tF_in (T := T) (s := tS T a) (i := i) (by omega)
      have hv : nI (10 * vl T (tS T a) i + T.1 (tS T a + i)) - 48 = nI (vl T (tS T a) (i + 1)) := by
        have := hfg.1
        rw [show (48 : Int32) = nI 48 from rfl, nI_sub (by omega)]
        congr 1
        show _ = vl T (tS T a) i * 10 + (T.1 (tS T a + i) - 48)
        omega
      refine vc_wp (T := TT []) TTn (fun _ => false) (rt0 := some .int) rfl (ckl_drop 5 c164) rfl ?_
      simp (disch := omega) only [List.drop, i164, wp_iinc, wpE0, wpE1, wpE2, wpE3, wpE4, wpE5, wpJ, okS, lt4S, popR, litS, Int32.reduceLT, Int32.reduceLE, List.getElem?_cons_zero, List.getElem?_cons_succ, Bool.false_eq_true, ↓reduceIte, Nat.reduceMod, Nat.reduceDiv, Nat.reduceAdd, Nat.reduceSub, Nat.reduceMul, Nat.reduceLeDiff, Nat.reduceEqDiff, Nat.reduceBEq, Int.reduceToNat, Int.reduceAdd, Int32.reduceOfInt, Int64.reduceOfInt, Int32.reduceToNatClampNeg, Int32.reduceOfNat, Bool.or_self, Bool.or_false, Bool.false_or, Bool.true_or, Bool.or_true, true_and, and_true, false_and, and_false, List.set_cons_zero, List.set_cons_succ, List.take_succ_cons, List.take_zero, List.drop_succ_cons, List.drop_zero, List.reverse_cons, List.reverse_nil, List.nil_append, List.cons_append, List.length_cons, List.length_nil, Option.toList_some, Option.toList_none, not_true_eq_false, not_false_eq_true, forall_const, true_implies, false_implies, nrw, TTS, shM, shO, and01, bI_0, bI_and, isRl, cmpS, toLS, toL_le, toL_lt, i2lS, inM, Int64.reduceLE, Int64.reduceLT, xa_1, xa_2, xa_xa, upd_at, updU, linS, nI_add, nI_s2, clN, inN, inLS, Nat.reduceEqDiff, ↓reduceIte, not_true_eq_false, not_false_eq_true, and_true, true_and, and_false, false_and, and_self, or_true, true_or, or_false, false_or, ↓reduceIte, if_true, if_false, eq_self, g13, g14, g15, g16, g17, z1, hi2, hi3, hin, hb, hv, Nat.add_assoc, subS, nI_1, not_true_eq_false, not_false_eq_true, and_true, true_and, and_false, false_and, and_self, or_true, true_or, or_false, false_or, ↓reduceIte, if_true, if_false, eq_self]
    · have hi2 : nI (tE T a) ≤ nI (tS T a + n) := nI_le (by omega) (by omega)
      have hi3 : ¬ nI (tS T a + n) < nI (tE T a) := Int32.not_lt.mpr hi2
      refine vc_wp (T := TT []) TTn (fun _ => false) (rt0 := some .int) rfl (ckl_drop 5 c164) rfl ?_
      simp (disch := omega) only [List.drop, i164, wp_iinc, wpE0, wpE1, wpE2, wpE3, wpE4, wpE5, wpJ, okS, lt4S, popR, litS, Int32.reduceLT, Int32.reduceLE, List.getElem?_cons_zero, List.getElem?_cons_succ, Bool.false_eq_true, ↓reduceIte, Nat.reduceMod, Nat.reduceDiv, Nat.reduceAdd, Nat.reduceSub, Nat.reduceMul, Nat.reduceLeDiff, Nat.reduceEqDiff, Nat.reduceBEq, Int.reduceToNat, Int.reduceAdd, Int32.reduceOfInt, Int64.reduceOfInt, Int32.reduceToNatClampNeg, Int32.reduceOfNat, Bool.or_self, Bool.or_false, Bool.false_or, Bool.true_or, Bool.or_true, true_and, and_true, false_and, and_false, List.set_cons_zero, List.set_cons_succ, List.take_succ_cons, List.take_zero, List.drop_succ_cons, List.drop_zero, List.reverse_cons, List.reverse_nil, List.nil_append, List.cons_append, List.length_cons, List.length_nil, Option.toList_some, Option.toList_none, not_true_eq_false, not_false_eq_true, forall_const, true_implies, false_implies, nrw, TTS, shM, shO, and01, bI_0, bI_and, isRl, cmpS, toLS, toL_le, toL_lt, i2lS, inM, Int64.reduceLE, Int64.reduceLT, xa_1, xa_2, xa_xa, upd_at, updU, linS, nI_add, nI_s2, clN, inN, inLS, Nat.reduceEqDiff, ↓reduceIte, not_true_eq_false, not_false_eq_true, and_true, true_and, and_false, false_and, and_self, or_true, true_or, or_false, false_or, ↓reduceIte, if_true, if_false, eq_self, g13, g14, g15, g16, g17, hi2, hi3, subS, nI_1, not_true_eq_false, not_false_eq_true, and_true, true_and, and_false, false_and, and_self, or_true, true_or, or_false, false_or, ↓reduceIte, if_true, if_false, eq_self]
      exact hq
  · have z1 : ¬ nI (mkk (tK T a)) = 3 := fun y => c1 (km.mp y)
    rw [if_neg c1] at hq
    by_cases y : tE T a ≤ tS T a
    · have hi2 : nI (tE T a) ≤ nI (tS T a) := nI_le y (by omega)
      have hi3 : ¬ nI (tS T a) < nI (tE T a) := Int32.not_lt.mpr hi2
      refine vc_wp (T := TT []) TTn (fun _ => false) (rt0 := some .int) rfl (ckl_drop 5 c164) rfl ?_
      simp (disch := omega) only [List.drop, i164, wp_iinc, wpE0, wpE1, wpE2, wpE3, wpE4, wpE5, wpJ, okS, lt4S, popR, litS, Int32.reduceLT, Int32.reduceLE, List.getElem?_cons_zero, List.getElem?_cons_succ, Bool.false_eq_true, ↓reduceIte, Nat.reduceMod, Nat.reduceDiv, Nat.reduceAdd, Nat.reduceSub, Nat.reduceMul, Nat.reduceLeDiff, Nat.reduceEqDiff, Nat.reduceBEq, Int.reduceToNat, Int.reduceAdd, Int32.reduceOfInt, Int64.reduceOfInt, Int32.reduceToNatClampNeg, Int32.reduceOfNat, Bool.or_self, Bool.or_false, Bool.false_or, Bool.true_or, Bool.or_true, true_and, and_true, false_and, and_false, List.set_cons_zero, List.set_cons_succ, List.take_succ_cons, List.take_zero, List.drop_succ_cons, List.drop_zero, List.reverse_cons, List.reverse_nil, List.nil_append, List.cons_append, List.length_cons, List.length_nil, Option.toList_some, Option.toList_none, not_true_eq_false, not_false_eq_true, forall_const, true_implies, false_implies, nrw, TTS, shM, shO, and01, bI_0, bI_and, isRl, cmpS, toLS, toL_le, toL_lt, i2lS, inM, Int64.reduceLE, Int64.reduceLT, xa_1, xa_2, xa_xa, upd_at, updU, linS, nI_add, nI_s2, clN, inN, inLS, Nat.reduceEqDiff, ↓reduceIte, not_true_eq_false, not_false_eq_true, and_true, true_and, and_false, false_and, and_self, or_true, true_or, or_false, false_or, ↓reduceIte, if_true, if_false, eq_self, g13, g14, g15, g16, g17, hi2, hi3, subS, nI_1, not_true_eq_false, not_false_eq_true, and_true, true_and, and_false, false_and, and_self, or_true, true_or, or_false, false_or, ↓reduceIte, if_true, if_false, eq_self]
      exact hq
    · have hi2 : ¬ nI (tE T a) ≤ nI (tS T a) := nI_ge (by omega) (by omega)
      have hi3 : nI (tS T a) < nI (tE T a) := Int32.not_le.mp hi2
      refine vc_wp (T := TT []) TTn (fun _ => false) (rt0 := some .int) rfl (ckl_drop 5 c164) rfl ?_
      simp (disch := omega) only [List.drop, i164, wp_iinc, wpE0, wpE1, wpE2, wpE3, wpE4, wpE5, wpJ, okS, lt4S, popR, litS, Int32.reduceLT, Int32.reduceLE, List.getElem?_cons_zero, List.getElem?_cons_succ, Bool.false_eq_true, ↓reduceIte, Nat.reduceMod, Nat.reduceDiv, Nat.reduceAdd, Nat.reduceSub, Nat.reduceMul, Nat.reduceLeDiff, Nat.reduceEqDiff, Nat.reduceBEq, Int.reduceToNat, Int.reduceAdd, Int32.reduceOfInt, Int64.reduceOfInt, Int32.reduceToNatClampNeg, Int32.reduceOfNat, Bool.or_self, Bool.or_false, Bool.false_or, Bool.true_or, Bool.or_true, true_and, and_true, false_and, and_false, List.set_cons_zero, List.set_cons_succ, List.take_succ_cons, List.take_zero, List.drop_succ_cons, List.drop_zero, List.reverse_cons, List.reverse_nil, List.nil_append, List.cons_append, List.length_cons, List.length_nil, Option.toList_some, Option.toList_none, not_true_eq_false, not_false_eq_true, forall_const, true_implies, false_implies, nrw, TTS, shM, shO, and01, bI_0, bI_and, isRl, cmpS, toLS, toL_le, toL_lt, i2lS, inM, Int64.reduceLE, Int64.reduceLT, xa_1, xa_2, xa_xa, upd_at, updU, linS, nI_add, nI_s2, clN, inN, inLS, Nat.reduceEqDiff, ↓reduceIte, not_true_eq_false, not_false_eq_true, and_true, true_and, and_false, false_and, and_self, or_true, true_or, or_false, false_or, ↓reduceIte, if_true, if_false, eq_self, g13, g14, g15, g16, g17, hi2, hi3, z1, subS, nI_1, not_true_eq_false, not_false_eq_true, and_true, true_and, and_false, false_and, and_self, or_true, true_or, or_false, false_or, ↓reduceIte, if_true, if_false, eq_self]
      exact hq


def S162 (as : List Value) (m : xM) (Q : xQt) : Prop := match as with
  | [.ref o, .int x] => wp (fun _ _ _ _ => False) (fun _ => false) Q (none) (TT []) none i162 [.ref o, .int x] [] m
  | _ => False
theorem s162 (o : Nat) (x : Int32) (m : xM) (Q : xQt) : S162 [.ref o, .int x] m Q = wp (fun _ _ _ _ => False) (fun _ => false) Q (none) (TT []) none i162 [.ref o, .int x] [] m := rfl
theorem t162 {G : xG} : ∀ as m Q, S162 as m Q → Tri G 162 as m Q := by
  intro as m Q h
  match as, h with
  | [.ref o, .int x], h => exact tri_wp (T := TT []) (ls := [.ref o, .int x]) TTn c162 (by decide +kernel) (rt0 := none) rfl rfl (Nat.le_of_ble_eq_true rfl) rfl h

def S155T (G : xG) (as : List Value) (m : xM) (Q : xQt) : Prop := Tri G 155 as m Q
def S161T (G : xG) (as : List Value) (m : xM) (Q : xQt) : Prop := Tri G 161 as m Q
def S164T (G : xG) (as : List Value) (m : xM) (Q : xQt) : Prop := Tri G 164 as m Q

theorem t155w {G : xG} {m M : xM} {F : Nat → Int32} {Q : xQt} {T : Tp} {a : Nat} (h : GO T a m F M) (hq : ∀ M', GO T (tE T a) m F M' → Q none M') : Tri G 155 [.ref 86] M Q :=
  t155x h.2.1 (tE_b h.2.2.1).2 h.2.2.2.1.1 h.2.2.2.1.2.1.1 (fun c' h1 h2 => hq _ (GO_86 h (tE_b h.2.2.1).2 h1 h2))
theorem f_ne {f : Nat} (h : 1 ≤ f ∧ f ≤ 3) : ¬ nI f = 0 ∧ ¬ nI f ≤ 0 ∧ 0 < nI f := ⟨nI_ne0 (by omega) (by omega), nI_nle (by omega) (by omega), nI_lt (a := 0) (by omega) (by omega)⟩

theorem t161x {G : xG} {m M : xM} {F : Nat → Int32} {Q : xQt} {T : Tp} {a : Nat} {b : Int32} (hg : GO T a m F M) (hq0 : b = 0 → ∀ M', GB 1 (tS T a) m M' → Q none M') (hq1 : ¬ b = 0 → ∀ M', GO T (tE T a) m F M' → Q none M') : Tri G 161 [.ref 86, .int b] M Q := by
  obtain ⟨g15, g17⟩ : M.1 86 15 = nI (tS T a) ∧ M.1 86 17 = 0 := ⟨hg.2.2.2.1.2.1.2.2.1, hg.2.2.2.1.2.2⟩
  by_cases c1 : b = 0
  · refine tri_wp (T := TT [(162, S162), (155, S155T G)]) (ls := [.ref 86, .int b]) (TTc t162 (TTc (fun as m Q h => h) TTn)) c161 (by decide +kernel) (rt0 := none) rfl rfl (Nat.le_of_ble_eq_true rfl) rfl ?_
    simp (disch := omega) only [i161, wp_iinc, wpE0, wpE1, wpE2, wpE3, wpE4, wpE5, wpJ, okS, lt4S, popR, litS, Int32.reduceLT, Int32.reduceLE, List.getElem?_cons_zero, List.getElem?_cons_succ, Bool.false_eq_true, ↓reduceIte, Nat.reduceMod, Nat.reduceDiv, Nat.reduceAdd, Nat.reduceSub, Nat.reduceMul, Nat.reduceLeDiff, Nat.reduceEqDiff, Nat.reduceBEq, Int.reduceToNat, Int.reduceAdd, Int32.reduceOfInt, Int64.reduceOfInt, Int32.reduceToNatClampNeg, Int32.reduceOfNat, Bool.or_self, Bool.or_false, Bool.false_or, Bool.true_or, Bool.or_true, true_and, and_true, false_and, and_false, List.set_cons_zero, List.set_cons_succ, List.take_succ_cons, List.take_zero, List.drop_succ_cons, List.drop_zero, List.reverse_cons, List.reverse_nil, List.nil_append, List.cons_append, List.length_cons, List.length_nil, Option.toList_some, Option.toList_none, not_true_eq_false, not_false_eq_true, forall_const, true_implies, false_implies, nrw, TTS, shM, shO, and01, bI_0, bI_and, isRl, cmpS, toLS, toL_le, toL_lt, i2lS, inM, Int64.reduceLE, Int64.reduceLT, xa_1, xa_2, xa_xa, upd_at, updU, linS, nI_add, nI_s2, clN, inN, inLS, Nat.reduceEqDiff, ↓reduceIte, not_true_eq_false, not_false_eq_true, and_true, true_and, and_false, false_and, and_self, or_true, true_or, or_false, false_or, ↓reduceIte, if_true, if_false, eq_self, s162, i162, g15, g17, c1, S155T, not_true_eq_false, not_false_eq_true, and_true, true_and, and_false, false_and, and_self, or_true, true_or, or_false, false_or, ↓reduceIte, if_true, if_false, eq_self]
    exact hq0 c1 _ (GB_mk (f := 1) hg (by omega))
  · refine tri_wp (T := TT [(162, S162), (155, S155T G)]) (ls := [.ref 86, .int b]) (TTc t162 (TTc (fun as m Q h => h) TTn)) c161 (by decide +kernel) (rt0 := none) rfl rfl (Nat.le_of_ble_eq_true rfl) rfl ?_
    simp (disch := omega) only [i161, wp_iinc, wpE0, wpE1, wpE2, wpE3, wpE4, wpE5, wpJ, okS, lt4S, popR, litS, Int32.reduceLT, Int32.reduceLE, List.getElem?_cons_zero, List.getElem?_cons_succ, Bool.false_eq_true, ↓reduceIte, Nat.reduceMod, Nat.reduceDiv, Nat.reduceAdd, Nat.reduceSub, Nat.reduceMul, Nat.reduceLeDiff, Nat.reduceEqDiff, Nat.reduceBEq, Int.reduceToNat, Int.reduceAdd, Int32.reduceOfInt, Int64.reduceOfInt, Int32.reduceToNatClampNeg, Int32.reduceOfNat, Bool.or_self, Bool.or_false, Bool.false_or, Bool.true_or, Bool.or_true, true_and, and_true, false_and, and_false, List.set_cons_zero, List.set_cons_succ, List.take_succ_cons, List.take_zero, List.drop_succ_cons, List.drop_zero, List.reverse_cons, List.reverse_nil, List.nil_append, List.cons_append, List.length_cons, List.length_nil, Option.toList_some, Option.toList_none, not_true_eq_false, not_false_eq_true, forall_const, true_implies, false_implies, nrw, TTS, shM, shO, and01, bI_0, bI_and, isRl, cmpS, toLS, toL_le, toL_lt, i2lS, inM, Int64.reduceLE, Int64.reduceLT, xa_1, xa_2, xa_xa, upd_at, updU, linS, nI_add, nI_s2, clN, inN, inLS, Nat.reduceEqDiff, ↓reduceIte, not_true_eq_false, not_false_eq_true, and_true, true_and, and_false, false_and, and_self, or_true, true_or, or_false, false_or, ↓reduceIte, if_true, if_false, eq_self, s162, i162, g15, g17, c1, S155T, not_true_eq_false, not_false_eq_true, and_true, true_and, and_false, false_and, and_self, or_true, true_or, or_false, false_or, ↓reduceIte, if_true, if_false, eq_self]
    refine t155w hg (fun M' h => ?_)
    simp (disch := omega) only [wp_iinc, wpE0, wpE1, wpE2, wpE3, wpE4, wpE5, wpJ, okS, lt4S, popR, litS, Int32.reduceLT, Int32.reduceLE, List.getElem?_cons_zero, List.getElem?_cons_succ, Bool.false_eq_true, ↓reduceIte, Nat.reduceMod, Nat.reduceDiv, Nat.reduceAdd, Nat.reduceSub, Nat.reduceMul, Nat.reduceLeDiff, Nat.reduceEqDiff, Nat.reduceBEq, Int.reduceToNat, Int.reduceAdd, Int32.reduceOfInt, Int64.reduceOfInt, Int32.reduceToNatClampNeg, Int32.reduceOfNat, Bool.or_self, Bool.or_false, Bool.false_or, Bool.true_or, Bool.or_true, true_and, and_true, false_and, and_false, List.set_cons_zero, List.set_cons_succ, List.take_succ_cons, List.take_zero, List.drop_succ_cons, List.drop_zero, List.reverse_cons, List.reverse_nil, List.nil_append, List.cons_append, List.length_cons, List.length_nil, Option.toList_some, Option.toList_none, not_true_eq_false, not_false_eq_true, forall_const, true_implies, false_implies, nrw, TTS, shM, shO, and01, bI_0, bI_and, isRl, cmpS, toLS, toL_le, toL_lt, i2lS, inM, Int64.reduceLE, Int64.reduceLT, xa_1, xa_2, xa_xa, upd_at, updU, linS, nI_add, nI_s2, clN, inN, inLS, Nat.reduceEqDiff, ↓reduceIte, not_true_eq_false, not_false_eq_true, and_true, true_and, and_false, false_and, and_self, or_true, true_or, or_false, false_or, ↓reduceIte, if_true, if_false, eq_self, s162, i162, not_true_eq_false, not_false_eq_true, and_true, true_and, and_false, false_and, and_self, or_true, true_or, or_false, false_or, ↓reduceIte, if_true, if_false, eq_self]
    exact hq1 c1 M' h


theorem t161b {G : xG} {M : xM} {Q : xQt} {f : Nat} {b : Int32} (h17 : M.1 86 17 = nI f) (hf : 1 ≤ f ∧ f ≤ 3) (hq : Q none M) : Tri G 161 [.ref 86, .int b] M Q := by
  obtain ⟨z1, z2, z3⟩ := f_ne hf
  by_cases c1 : b = 0
  · refine tri_wp (T := TT [(162, S162), (155, S155T G)]) (ls := [.ref 86, .int b]) (TTc t162 (TTc (fun as m Q h => h) TTn)) c161 (by decide +kernel) (rt0 := none) rfl rfl (Nat.le_of_ble_eq_true rfl) rfl ?_
    simp (disch := omega) only [i161, wp_iinc, wpE0, wpE1, wpE2, wpE3, wpE4, wpE5, wpJ, okS, lt4S, popR, litS, Int32.reduceLT, Int32.reduceLE, List.getElem?_cons_zero, List.getElem?_cons_succ, Bool.false_eq_true, ↓reduceIte, Nat.reduceMod, Nat.reduceDiv, Nat.reduceAdd, Nat.reduceSub, Nat.reduceMul, Nat.reduceLeDiff, Nat.reduceEqDiff, Nat.reduceBEq, Int.reduceToNat, Int.reduceAdd, Int32.reduceOfInt, Int64.reduceOfInt, Int32.reduceToNatClampNeg, Int32.reduceOfNat, Bool.or_self, Bool.or_false, Bool.false_or, Bool.true_or, Bool.or_true, true_and, and_true, false_and, and_false, List.set_cons_zero, List.set_cons_succ, List.take_succ_cons, List.take_zero, List.drop_succ_cons, List.drop_zero, List.reverse_cons, List.reverse_nil, List.nil_append, List.cons_append, List.length_cons, List.length_nil, Option.toList_some, Option.toList_none, not_true_eq_false, not_false_eq_true, forall_const, true_implies, false_implies, nrw, TTS, shM, shO, and01, bI_0, bI_and, isRl, cmpS, toLS, toL_le, toL_lt, i2lS, inM, Int64.reduceLE, Int64.reduceLT, xa_1, xa_2, xa_xa, upd_at, updU, linS, nI_add, nI_s2, clN, inN, inLS, Nat.reduceEqDiff, ↓reduceIte, not_true_eq_false, not_false_eq_true, and_true, true_and, and_false, false_and, and_self, or_true, true_or, or_false, false_or, ↓reduceIte, if_true, if_false, eq_self, s162, i162, h17, z1, c1, not_true_eq_false, not_false_eq_true, and_true, true_and, and_false, false_and, and_self, or_true, true_or, or_false, false_or, ↓reduceIte, if_true, if_false, eq_self]
    exact hq
  · refine tri_wp (T := TT [(162, S162), (155, S155T G)]) (ls := [.ref 86, .int b]) (TTc t162 (TTc (fun as m Q h => h) TTn)) c161 (by decide +kernel) (rt0 := none) rfl rfl (Nat.le_of_ble_eq_true rfl) rfl ?_
    simp (disch := omega) only [i161, wp_iinc, wpE0, wpE1, wpE2, wpE3, wpE4, wpE5, wpJ, okS, lt4S, popR, litS, Int32.reduceLT, Int32.reduceLE, List.getElem?_cons_zero, List.getElem?_cons_succ, Bool.false_eq_true, ↓reduceIte, Nat.reduceMod, Nat.reduceDiv, Nat.reduceAdd, Nat.reduceSub, Nat.reduceMul, Nat.reduceLeDiff, Nat.reduceEqDiff, Nat.reduceBEq, Int.reduceToNat, Int.reduceAdd, Int32.reduceOfInt, Int64.reduceOfInt, Int32.reduceToNatClampNeg, Int32.reduceOfNat, Bool.or_self, Bool.or_false, Bool.false_or, Bool.true_or, Bool.or_true, true_and, and_true, false_and, and_false, List.set_cons_zero, List.set_cons_succ, List.take_succ_cons, List.take_zero, List.drop_succ_cons, List.drop_zero, List.reverse_cons, List.reverse_nil, List.nil_append, List.cons_append, List.length_cons, List.length_nil, Option.toList_some, Option.toList_none, not_true_eq_false, not_false_eq_true, forall_const, true_implies, false_implies, nrw, TTS, shM, shO, and01, bI_0, bI_and, isRl, cmpS, toLS, toL_le, toL_lt, i2lS, inM, Int64.reduceLE, Int64.reduceLT, xa_1, xa_2, xa_xa, upd_at, updU, linS, nI_add, nI_s2, clN, inN, inLS, Nat.reduceEqDiff, ↓reduceIte, not_true_eq_false, not_false_eq_true, and_true, true_and, and_false, false_and, and_self, or_true, true_or, or_false, false_or, ↓reduceIte, if_true, if_false, eq_self, s162, i162, h17, z1, c1, not_true_eq_false, not_false_eq_true, and_true, true_and, and_false, false_and, and_self, or_true, true_or, or_false, false_or, ↓reduceIte, if_true, if_false, eq_self]
    exact hq


theorem t163x {G : xG} {m M : xM} {F : Nat → Int32} {Q : xQt} {T : Tp} {a lo hi : Nat} (hg : GO T a m F M) (hlo : lo ≤ 999) (hhi : hi ≤ 999) (hqf : ¬ nF T a lo hi = 0 → ∀ v M', GB (nF T a lo hi) (tS T a) m M' → Q (some (.int v)) M') (hqk : nF T a lo hi = 0 → ∀ M', GO T (tE T a) m F M' → Q (some (.int (nI (tV T a)))) M') : Tri G 163 [.ref 86, .int (nI lo), .int (nI hi)] M Q := by
  have g15 : M.1 86 15 = nI (tS T a) := hg.2.2.2.1.2.1.2.2.1
  have g14 : M.1 86 14 = nI (mkk (tK T a)) := hg.2.2.2.1.2.1.2.1
  have g17 : M.1 86 17 = 0 := hg.2.2.2.1.2.2
  have k4 := tK_4 T a
  have km : nI (mkk (tK T a)) = 3 ↔ tK T a = 2 := by
    have := mkk_i (t := tK T a) (u := 2) k4 (by omega)
    exact ⟨fun y => this.mp y, fun y => this.mpr y⟩
  refine tri_wp (T := TT [(162, S162), (148, S148), (161, S161T G), (164, S164T G)]) (ls := [.ref 86, .int (nI lo), .int (nI hi), .null]) (TTc t162 (TTc t148 (TTc (fun as m Q h => h) (TTc (fun as m Q h => h) TTn)))) c163 (by decide +kernel) (rt0 := some .int) rfl rfl (Nat.le_of_ble_eq_true rfl) rfl ?_
  simp (disch := omega) only [i163, wp_iinc, wpE0, wpE1, wpE2, wpE3, wpE4, wpE5, wpJ, okS, lt4S, popR, litS, Int32.reduceLT, Int32.reduceLE, List.getElem?_cons_zero, List.getElem?_cons_succ, Bool.false_eq_true, ↓reduceIte, Nat.reduceMod, Nat.reduceDiv, Nat.reduceAdd, Nat.reduceSub, Nat.reduceMul, Nat.reduceLeDiff, Nat.reduceEqDiff, Nat.reduceBEq, Int.reduceToNat, Int.reduceAdd, Int32.reduceOfInt, Int64.reduceOfInt, Int32.reduceToNatClampNeg, Int32.reduceOfNat, Bool.or_self, Bool.or_false, Bool.false_or, Bool.true_or, Bool.or_true, true_and, and_true, false_and, and_false, List.set_cons_zero, List.set_cons_succ, List.take_succ_cons, List.take_zero, List.drop_succ_cons, List.drop_zero, List.reverse_cons, List.reverse_nil, List.nil_append, List.cons_append, List.length_cons, List.length_nil, Option.toList_some, Option.toList_none, not_true_eq_false, not_false_eq_true, forall_const, true_implies, false_implies, nrw, TTS, shM, shO, and01, bI_0, bI_and, isRl, cmpS, toLS, toL_le, toL_lt, i2lS, inM, Int64.reduceLE, Int64.reduceLT, xa_1, xa_2, xa_xa, upd_at, updU, linS, nI_add, nI_s2, clN, inN, inLS, Nat.reduceEqDiff, ↓reduceIte, not_true_eq_false, not_false_eq_true, and_true, true_and, and_false, false_and, and_self, or_true, true_or, or_false, false_or, ↓reduceIte, if_true, if_false, eq_self, s162, i162, g14, g17, S161T, S164T, s148, not_true_eq_false, not_false_eq_true, and_true, true_and, and_false, false_and, and_self, or_true, true_or, or_false, false_or, ↓reduceIte, if_true, if_false, eq_self]
  refine t164x hg ?_
  by_cases c1 : tK T a = 2
  · rw [if_pos c1]
    have v9 := tV_b c1
    have z1 : (nI (mkk (tK T a)) = 3) = True := eq_true (km.mpr c1)
    have hin : (nI lo ≤ nI (tV T a) ∧ nI (tV T a) ≤ nI hi) ↔ (lo ≤ tV T a ∧ tV T a ≤ hi) := by rw [nI_leI (by omega) (by omega), nI_leI (by omega) (by omega)]
    by_cases c2 : lo ≤ tV T a ∧ tV T a ≤ hi
    · have c2' := hin.mpr c2
      have e : nF T a lo hi = 0 := by unfold nF; rw [if_pos c1, if_pos c2]
      simp (disch := omega) only [wp_iinc, wpE0, wpE1, wpE2, wpE3, wpE4, wpE5, wpJ, okS, lt4S, popR, litS, Int32.reduceLT, Int32.reduceLE, List.getElem?_cons_zero, List.getElem?_cons_succ, Bool.false_eq_true, ↓reduceIte, Nat.reduceMod, Nat.reduceDiv, Nat.reduceAdd, Nat.reduceSub, Nat.reduceMul, Nat.reduceLeDiff, Nat.reduceEqDiff, Nat.reduceBEq, Int.reduceToNat, Int.reduceAdd, Int32.reduceOfInt, Int64.reduceOfInt, Int32.reduceToNatClampNeg, Int32.reduceOfNat, Bool.or_self, Bool.or_false, Bool.false_or, Bool.true_or, Bool.or_true, true_and, and_true, false_and, and_false, List.set_cons_zero, List.set_cons_succ, List.take_succ_cons, List.take_zero, List.drop_succ_cons, List.drop_zero, List.reverse_cons, List.reverse_nil, List.nil_append, List.cons_append, List.length_cons, List.length_nil, Option.toList_some, Option.toList_none, not_true_eq_false, not_false_eq_true, forall_const, true_implies, false_implies, nrw, TTS, shM, shO, and01, bI_0, bI_and, isRl, cmpS, toLS, toL_le, toL_lt, i2lS, inM, Int64.reduceLE, Int64.reduceLT, xa_1, xa_2, xa_xa, upd_at, updU, linS, nI_add, nI_s2, clN, inN, inLS, Nat.reduceEqDiff, ↓reduceIte, not_true_eq_false, not_false_eq_true, and_true, true_and, and_false, false_and, and_self, or_true, true_or, or_false, false_or, ↓reduceIte, if_true, if_false, eq_self, s162, i162, s148, g14, g15, g17, z1, c2', S161T, not_true_eq_false, not_false_eq_true, and_true, true_and, and_false, false_and, and_self, or_true, true_or, or_false, false_or, ↓reduceIte, if_true, if_false, eq_self]
      refine t161x hg (fun y => absurd y one_ne) (fun _ M' h => ?_)
      simp (disch := omega) only [wp_iinc, wpE0, wpE1, wpE2, wpE3, wpE4, wpE5, wpJ, okS, lt4S, popR, litS, Int32.reduceLT, Int32.reduceLE, List.getElem?_cons_zero, List.getElem?_cons_succ, Bool.false_eq_true, ↓reduceIte, Nat.reduceMod, Nat.reduceDiv, Nat.reduceAdd, Nat.reduceSub, Nat.reduceMul, Nat.reduceLeDiff, Nat.reduceEqDiff, Nat.reduceBEq, Int.reduceToNat, Int.reduceAdd, Int32.reduceOfInt, Int64.reduceOfInt, Int32.reduceToNatClampNeg, Int32.reduceOfNat, Bool.or_self, Bool.or_false, Bool.false_or, Bool.true_or, Bool.or_true, true_and, and_true, false_and, and_false, List.set_cons_zero, List.set_cons_succ, List.take_succ_cons, List.take_zero, List.drop_succ_cons, List.drop_zero, List.reverse_cons, List.reverse_nil, List.nil_append, List.cons_append, List.length_cons, List.length_nil, Option.toList_some, Option.toList_none, not_true_eq_false, not_false_eq_true, forall_const, true_implies, false_implies, nrw, TTS, shM, shO, and01, bI_0, bI_and, isRl, cmpS, toLS, toL_le, toL_lt, i2lS, inM, Int64.reduceLE, Int64.reduceLT, xa_1, xa_2, xa_xa, upd_at, updU, linS, nI_add, nI_s2, clN, inN, inLS, Nat.reduceEqDiff, ↓reduceIte, not_true_eq_false, not_false_eq_true, and_true, true_and, and_false, false_and, and_self, or_true, true_or, or_false, false_or, ↓reduceIte, if_true, if_false, eq_self, s162, i162, not_true_eq_false, not_false_eq_true, and_true, true_and, and_false, false_and, and_self, or_true, true_or, or_false, false_or, ↓reduceIte, if_true, if_false, eq_self]
      exact hqk e M' h
    · have c2' : ¬ (nI lo ≤ nI (tV T a) ∧ nI (tV T a) ≤ nI hi) := fun y => c2 (hin.mp y)
      have e : nF T a lo hi = 2 := by unfold nF; rw [if_pos c1, if_neg c2]
      simp (disch := omega) only [wp_iinc, wpE0, wpE1, wpE2, wpE3, wpE4, wpE5, wpJ, okS, lt4S, popR, litS, Int32.reduceLT, Int32.reduceLE, List.getElem?_cons_zero, List.getElem?_cons_succ, Bool.false_eq_true, ↓reduceIte, Nat.reduceMod, Nat.reduceDiv, Nat.reduceAdd, Nat.reduceSub, Nat.reduceMul, Nat.reduceLeDiff, Nat.reduceEqDiff, Nat.reduceBEq, Int.reduceToNat, Int.reduceAdd, Int32.reduceOfInt, Int64.reduceOfInt, Int32.reduceToNatClampNeg, Int32.reduceOfNat, Bool.or_self, Bool.or_false, Bool.false_or, Bool.true_or, Bool.or_true, true_and, and_true, false_and, and_false, List.set_cons_zero, List.set_cons_succ, List.take_succ_cons, List.take_zero, List.drop_succ_cons, List.drop_zero, List.reverse_cons, List.reverse_nil, List.nil_append, List.cons_append, List.length_cons, List.length_nil, Option.toList_some, Option.toList_none, not_true_eq_false, not_false_eq_true, forall_const, true_implies, false_implies, nrw, TTS, shM, shO, and01, bI_0, bI_and, isRl, cmpS, toLS, toL_le, toL_lt, i2lS, inM, Int64.reduceLE, Int64.reduceLT, xa_1, xa_2, xa_xa, upd_at, updU, linS, nI_add, nI_s2, clN, inN, inLS, Nat.reduceEqDiff, ↓reduceIte, not_true_eq_false, not_false_eq_true, and_true, true_and, and_false, false_and, and_self, or_true, true_or, or_false, false_or, ↓reduceIte, if_true, if_false, eq_self, s162, i162, s148, g14, g15, g17, z1, c2', S161T, not_true_eq_false, not_false_eq_true, and_true, true_and, and_false, false_and, and_self, or_true, true_or, or_false, false_or, ↓reduceIte, if_true, if_false, eq_self]
      refine t161b (f := 2) rfl (by omega) ?_
      simp (disch := omega) only [wp_iinc, wpE0, wpE1, wpE2, wpE3, wpE4, wpE5, wpJ, okS, lt4S, popR, litS, Int32.reduceLT, Int32.reduceLE, List.getElem?_cons_zero, List.getElem?_cons_succ, Bool.false_eq_true, ↓reduceIte, Nat.reduceMod, Nat.reduceDiv, Nat.reduceAdd, Nat.reduceSub, Nat.reduceMul, Nat.reduceLeDiff, Nat.reduceEqDiff, Nat.reduceBEq, Int.reduceToNat, Int.reduceAdd, Int32.reduceOfInt, Int64.reduceOfInt, Int32.reduceToNatClampNeg, Int32.reduceOfNat, Bool.or_self, Bool.or_false, Bool.false_or, Bool.true_or, Bool.or_true, true_and, and_true, false_and, and_false, List.set_cons_zero, List.set_cons_succ, List.take_succ_cons, List.take_zero, List.drop_succ_cons, List.drop_zero, List.reverse_cons, List.reverse_nil, List.nil_append, List.cons_append, List.length_cons, List.length_nil, Option.toList_some, Option.toList_none, not_true_eq_false, not_false_eq_true, forall_const, true_implies, false_implies, nrw, TTS, shM, shO, and01, bI_0, bI_and, isRl, cmpS, toLS, toL_le, toL_lt, i2lS, inM, Int64.reduceLE, Int64.reduceLT, xa_1, xa_2, xa_xa, upd_at, updU, linS, nI_add, nI_s2, clN, inN, inLS, Nat.reduceEqDiff, ↓reduceIte, not_true_eq_false, not_false_eq_true, and_true, true_and, and_false, false_and, and_self, or_true, true_or, or_false, false_or, ↓reduceIte, if_true, if_false, eq_self, s162, i162, not_true_eq_false, not_false_eq_true, and_true, true_and, and_false, false_and, and_self, or_true, true_or, or_false, false_or, ↓reduceIte, if_true, if_false, eq_self]
      exact hqf (by omega) _ _ (by rw [e]; exact GB_mk (f := 2) hg (by omega))
  · rw [if_neg c1]
    have z1 : ¬ nI (mkk (tK T a)) = 3 := fun y => c1 (km.mp y)
    have e : nF T a lo hi = 1 := by unfold nF; rw [if_neg c1]
    simp (disch := omega) only [wp_iinc, wpE0, wpE1, wpE2, wpE3, wpE4, wpE5, wpJ, okS, lt4S, popR, litS, Int32.reduceLT, Int32.reduceLE, List.getElem?_cons_zero, List.getElem?_cons_succ, Bool.false_eq_true, ↓reduceIte, Nat.reduceMod, Nat.reduceDiv, Nat.reduceAdd, Nat.reduceSub, Nat.reduceMul, Nat.reduceLeDiff, Nat.reduceEqDiff, Nat.reduceBEq, Int.reduceToNat, Int.reduceAdd, Int32.reduceOfInt, Int64.reduceOfInt, Int32.reduceToNatClampNeg, Int32.reduceOfNat, Bool.or_self, Bool.or_false, Bool.false_or, Bool.true_or, Bool.or_true, true_and, and_true, false_and, and_false, List.set_cons_zero, List.set_cons_succ, List.take_succ_cons, List.take_zero, List.drop_succ_cons, List.drop_zero, List.reverse_cons, List.reverse_nil, List.nil_append, List.cons_append, List.length_cons, List.length_nil, Option.toList_some, Option.toList_none, not_true_eq_false, not_false_eq_true, forall_const, true_implies, false_implies, nrw, TTS, shM, shO, and01, bI_0, bI_and, isRl, cmpS, toLS, toL_le, toL_lt, i2lS, inM, Int64.reduceLE, Int64.reduceLT, xa_1, xa_2, xa_xa, upd_at, updU, linS, nI_add, nI_s2, clN, inN, inLS, Nat.reduceEqDiff, ↓reduceIte, not_true_eq_false, not_false_eq_true, and_true, true_and, and_false, false_and, and_self, or_true, true_or, or_false, false_or, ↓reduceIte, if_true, if_false, eq_self, s162, i162, s148, g14, g15, g17, z1, S161T, not_true_eq_false, not_false_eq_true, and_true, true_and, and_false, false_and, and_self, or_true, true_or, or_false, false_or, ↓reduceIte, if_true, if_false, eq_self]
    refine t161x hg (fun _ M' h => ?_) (fun y => absurd rfl y)
    simp (disch := omega) only [wp_iinc, wpE0, wpE1, wpE2, wpE3, wpE4, wpE5, wpJ, okS, lt4S, popR, litS, Int32.reduceLT, Int32.reduceLE, List.getElem?_cons_zero, List.getElem?_cons_succ, Bool.false_eq_true, ↓reduceIte, Nat.reduceMod, Nat.reduceDiv, Nat.reduceAdd, Nat.reduceSub, Nat.reduceMul, Nat.reduceLeDiff, Nat.reduceEqDiff, Nat.reduceBEq, Int.reduceToNat, Int.reduceAdd, Int32.reduceOfInt, Int64.reduceOfInt, Int32.reduceToNatClampNeg, Int32.reduceOfNat, Bool.or_self, Bool.or_false, Bool.false_or, Bool.true_or, Bool.or_true, true_and, and_true, false_and, and_false, List.set_cons_zero, List.set_cons_succ, List.take_succ_cons, List.take_zero, List.drop_succ_cons, List.drop_zero, List.reverse_cons, List.reverse_nil, List.nil_append, List.cons_append, List.length_cons, List.length_nil, Option.toList_some, Option.toList_none, not_true_eq_false, not_false_eq_true, forall_const, true_implies, false_implies, nrw, TTS, shM, shO, and01, bI_0, bI_and, isRl, cmpS, toLS, toL_le, toL_lt, i2lS, inM, Int64.reduceLE, Int64.reduceLT, xa_1, xa_2, xa_xa, upd_at, updU, linS, nI_add, nI_s2, clN, inN, inLS, Nat.reduceEqDiff, ↓reduceIte, not_true_eq_false, not_false_eq_true, and_true, true_and, and_false, false_and, and_self, or_true, true_or, or_false, false_or, ↓reduceIte, if_true, if_false, eq_self, s162, i162, not_true_eq_false, not_false_eq_true, and_true, true_and, and_false, false_and, and_self, or_true, true_or, or_false, false_or, ↓reduceIte, if_true, if_false, eq_self]
    rw [← e] at h
    exact hqf (by omega) _ _ h


theorem t163b {G : xG} {M : xM} {Q : xQt} {f : Nat} {x y : Int32} (h17 : M.1 86 17 = nI f) (hf : 1 ≤ f ∧ f ≤ 3) (hq : Q (some (.int 0)) M) : Tri G 163 [.ref 86, .int x, .int y] M Q := by
  obtain ⟨z1, z2, z3⟩ := f_ne hf
  refine tri_wp (T := TT [(162, S162), (148, S148), (161, S161T G), (164, S164T G)]) (ls := [.ref 86, .int x, .int y, .null]) (TTc t162 (TTc t148 (TTc (fun as m Q h => h) (TTc (fun as m Q h => h) TTn)))) c163 (by decide +kernel) (rt0 := some .int) rfl rfl (Nat.le_of_ble_eq_true rfl) rfl ?_
  simp (disch := omega) only [i163, wp_iinc, wpE0, wpE1, wpE2, wpE3, wpE4, wpE5, wpJ, okS, lt4S, popR, litS, Int32.reduceLT, Int32.reduceLE, List.getElem?_cons_zero, List.getElem?_cons_succ, Bool.false_eq_true, ↓reduceIte, Nat.reduceMod, Nat.reduceDiv, Nat.reduceAdd, Nat.reduceSub, Nat.reduceMul, Nat.reduceLeDiff, Nat.reduceEqDiff, Nat.reduceBEq, Int.reduceToNat, Int.reduceAdd, Int32.reduceOfInt, Int64.reduceOfInt, Int32.reduceToNatClampNeg, Int32.reduceOfNat, Bool.or_self, Bool.or_false, Bool.false_or, Bool.true_or, Bool.or_true, true_and, and_true, false_and, and_false, List.set_cons_zero, List.set_cons_succ, List.take_succ_cons, List.take_zero, List.drop_succ_cons, List.drop_zero, List.reverse_cons, List.reverse_nil, List.nil_append, List.cons_append, List.length_cons, List.length_nil, Option.toList_some, Option.toList_none, not_true_eq_false, not_false_eq_true, forall_const, true_implies, false_implies, nrw, TTS, shM, shO, and01, bI_0, bI_and, isRl, cmpS, toLS, toL_le, toL_lt, i2lS, inM, Int64.reduceLE, Int64.reduceLT, xa_1, xa_2, xa_xa, upd_at, updU, linS, nI_add, nI_s2, clN, inN, inLS, Nat.reduceEqDiff, ↓reduceIte, not_true_eq_false, not_false_eq_true, and_true, true_and, and_false, false_and, and_self, or_true, true_or, or_false, false_or, ↓reduceIte, if_true, if_false, eq_self, s162, i162, h17, z1, z2, z3, not_true_eq_false, not_false_eq_true, and_true, true_and, and_false, false_and, and_self, or_true, true_or, or_false, false_or, ↓reduceIte, if_true, if_false, eq_self]
  exact hq

