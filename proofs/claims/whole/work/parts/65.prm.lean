/-! ===== FIRST: orders ===== -/
def pm (n : Nat) (f : Nat → Nat) : Prop := (∀ i, i < n → f i < n) ∧ ∀ i j, i < n → j < n → f i = f j → i = j
theorem pm_sur : ∀ (n : Nat) (f : Nat → Nat), pm n f → ∀ v, v < n → ∃ i, i < n ∧ f i = v
  | 0, _, _, v, hv => absurd hv (by omega)
  | n + 1, f, hf, v, hv => by
    have top : ∃ i, i < n + 1 ∧ f i = n := by
      apply Classical.byContradiction
      intro hno
      have hlt : ∀ i, i < n + 1 → f i < n := fun i hi => by
        have h1 := hf.1 i hi
        have h2 : f i ≠ n := fun z => hno ⟨i, hi, z⟩
        omega
      obtain ⟨i, hi, e⟩ := pm_sur n f ⟨fun i hi => hlt i (by omega), fun i j hi hj => hf.2 i j (by omega) (by omega)⟩ (f n) (hlt n (by omega))
      have := hf.2 i n (by omega) (by omega) e
      omega
    by_cases hvn : v = n
    · rw [hvn]; exact top
    obtain ⟨i0, hi0, e0⟩ := top
    have key : pm n (fun i => if f i = n then f n else f i) := by
      have val : ∀ i, i < n → (if f i = n then f n else f i) < n := by
        intro i hi
        by_cases z : f i = n
        · rw [if_pos z]
          have h1 := hf.1 n (by omega)
          have h2 : f n ≠ n := fun y => by have := hf.2 i n (by omega) (by omega) (z.trans y.symm); omega
          omega
        · rw [if_neg z]
          have h1 := hf.1 i (by omega)
          omega
      refine ⟨val, fun i j hi hj he => ?_⟩
      have he : (if f i = n then f n else f i) = (if f j = n then f n else f j) := he
      by_cases zi : f i = n <;> by_cases zj : f j = n
      · exact hf.2 i j (by omega) (by omega) (zi.trans zj.symm)
      · rw [if_pos zi, if_neg zj] at he
        have := hf.2 n j (by omega) (by omega) he
        omega
      · rw [if_neg zi, if_pos zj] at he
        have := hf.2 i n (by omega) (by omega) he
        omega
      · rw [if_neg zi, if_neg zj] at he
        exact hf.2 i j (by omega) (by omega) he
    obtain ⟨i, hi, e⟩ := pm_sur n _ key v (by omega)
    have e : (if f i = n then f n else f i) = v := e
    by_cases z : f i = n
    · rw [if_pos z] at e; exact ⟨n, by omega, e⟩
    · rw [if_neg z] at e; exact ⟨i, by omega, e⟩
def ltx (n : Nat) (f g : Nat → Nat) : Prop := ∃ d, d < n ∧ (∀ i, i < d → f i = g i) ∧ f d < g d
theorem ltx_asy {n : Nat} {f g : Nat → Nat} (h1 : ltx n f g) (h2 : ltx n g f) : False := by
  obtain ⟨d, d1, d2, d3⟩ := h1
  obtain ⟨e, e1, e2, e3⟩ := h2
  rcases Nat.lt_trichotomy d e with z | z | z
  · have := e2 d z; omega
  · subst z; omega
  · have := d2 e z; omega
theorem ltx_tri {f g : Nat → Nat} : ∀ n, (∀ i, i < n → f i = g i) ∨ ltx n f g ∨ ltx n g f
  | 0 => Or.inl (fun i h => absurd h (by omega))
  | n + 1 => by
    rcases ltx_tri (f := f) (g := g) n with h | ⟨d, d1, d2⟩ | ⟨d, d1, d2⟩
    · rcases Nat.lt_trichotomy (f n) (g n) with z | z | z
      · exact Or.inr (Or.inl ⟨n, by omega, h, z⟩)
      · exact Or.inl (fun i hi => if e : i = n then by rw [e]; exact z else h i (by omega))
      · exact Or.inr (Or.inr ⟨n, by omega, fun i hi => (h i hi).symm, z⟩)
    · exact Or.inr (Or.inl ⟨d, by omega, d2⟩)
    · exact Or.inr (Or.inr ⟨d, by omega, d2⟩)
/-- the next order: where it turns, whom it takes -/
def nxP (n : Nat) (f : Nat → Nat) (k j : Nat) : Prop := k + 1 < n ∧ k < j ∧ j < n ∧ (∀ a b, k < a → a < b → b < n → f b < f a) ∧ f k < f j ∧ ∀ i, j < i → i < n → f i < f k
def nxG (n : Nat) (f : Nat → Nat) (k j : Nat) (i : Nat) : Nat := if i < k then f i else if i = k then f j else if n + k - i = j then f k else f (n + k - i)
theorem nxG_lo {n k j i : Nat} {f : Nat → Nat} (h : i < k) : nxG n f k j i = f i := if_pos h
theorem nxG_k {n k j : Nat} {f : Nat → Nat} : nxG n f k j k = f j := by unfold nxG; rw [if_neg (by omega), if_pos rfl]
theorem nxG_asc {n k j : Nat} {f : Nat → Nat} (h : nxP n f k j) {a b : Nat} (h1 : k < a) (h2 : a < b) (h3 : b < n) : nxG n f k j a < nxG n f k j b := by
  obtain ⟨p1, p2, p3, p4, p5, p6⟩ := h
  unfold nxG
  rw [if_neg (by omega), if_neg (by omega), if_neg (show ¬ b < k by omega), if_neg (show ¬ b = k by omega)]
  by_cases za : n + k - a = j
  · rw [if_pos za, if_neg (by omega)]
    by_cases zz : n + k - b < j
    · have := p4 (n + k - b) j (by omega) zz p3
      omega
    · omega
  · rw [if_neg za]
    by_cases zb : n + k - b = j
    · rw [if_pos zb]
      exact p6 _ (by omega) (by omega)
    · rw [if_neg zb]
      exact p4 _ _ (by omega) (by omega) (by omega)
theorem nxG_pm {n k j : Nat} {f : Nat → Nat} (hf : pm n f) (h : nxP n f k j) : pm n (nxG n f k j) := by
  obtain ⟨p1, p2, p3, p4, p5, p6⟩ := id h
  -- each value is f at a place; the places are apart
  have pl : ∀ i, i < n → ∃ p, p < n ∧ nxG n f k j i = f p ∧ ((i < k ∧ p = i) ∨ (i = k ∧ p = j) ∨ (k < i ∧ n + k - i = j ∧ p = k) ∨ (k < i ∧ n + k - i ≠ j ∧ p = n + k - i)) := by
    intro i hi
    unfold nxG
    by_cases z1 : i < k
    · exact ⟨i, hi, if_pos z1, Or.inl ⟨z1, rfl⟩⟩
    · rw [if_neg z1]
      by_cases z2 : i = k
      · exact ⟨j, p3, if_pos z2, Or.inr (Or.inl ⟨z2, rfl⟩)⟩
      · rw [if_neg z2]
        by_cases z3 : n + k - i = j
        · exact ⟨k, by omega, if_pos z3, Or.inr (Or.inr (Or.inl ⟨by omega, z3, rfl⟩))⟩
        · exact ⟨n + k - i, by omega, if_neg z3, Or.inr (Or.inr (Or.inr ⟨by omega, z3, rfl⟩))⟩
  refine ⟨fun i hi => ?_, fun a b ha hb he => ?_⟩
  · obtain ⟨p, q1, q2, _⟩ := pl i hi
    rw [q2]; exact hf.1 p q1
  · obtain ⟨p, q1, q2, q3⟩ := pl a ha
    obtain ⟨q, r1, r2, r3⟩ := pl b hb
    rw [q2, r2] at he
    have e := hf.2 p q q1 r1 he
    omega
theorem nx_up {n k j : Nat} {f : Nat → Nat} (h : nxP n f k j) : ltx n f (nxG n f k j) := ⟨k, by have := h.1; omega, fun i hi => (nxG_lo hi).symm, by rw [nxG_k]; exact h.2.2.2.2.1⟩
theorem nx_no {n k j : Nat} {f P : Nat → Nat} (hf : pm n f) (hP : pm n P) (h : nxP n f k j) (hl : ltx n f P) : ¬ ltx n P (nxG n f k j) := by
  obtain ⟨p1, p2, p3, p4, p5, p6⟩ := id h
  have hg := nxG_pm hf h
  obtain ⟨d, d1, d2, d3⟩ := hl
  obtain ⟨e, e1, e2⟩ := pm_sur n f hf (P d) (hP.1 d d1)
  have hed : d ≤ e := by
    apply Classical.byContradiction
    intro z
    have h1 := d2 e (by omega)
    have h2 := hP.2 e d e1 d1 (by rw [← h1]; exact e2)
    omega
  have hed2 : d < e := by
    by_cases z : d = e
    · subst z; omega
    · omega
  intro hl2
  by_cases c1 : k < d
  · have := p4 d e c1 hed2 e1
    omega
  by_cases c2 : d < k
  · refine ltx_asy hl2 ⟨d, d1, fun i hi => ?_, ?_⟩
    · rw [nxG_lo (by omega)]; exact d2 i hi
    · rw [nxG_lo c2]; exact d3
  have c3 : d = k := by omega
  subst c3
  have hej : e ≤ j := by
    apply Classical.byContradiction
    intro z
    have := p6 e (by omega) e1
    omega
  by_cases c4 : e = j
  · subst c4
    obtain ⟨x, x1, x2, x3⟩ := hl2
    have hkx : d < x := by
      rcases Nat.lt_trichotomy x d with z | z | z
      · rw [nxG_lo z, d2 x z] at x3; omega
      · subst z; rw [nxG_k, e2] at x3; omega
      · exact z
    obtain ⟨y, y1, y2⟩ := pm_sur n _ hg (P x) (hP.1 x x1)
    have hyx : x ≤ y := by
      apply Classical.byContradiction
      intro z
      have h1 := x2 y (by omega)
      have h2 := hP.2 y x y1 x1 (by rw [h1]; exact y2)
      omega
    by_cases z : x = y
    · subst z; omega
    · have := nxG_asc h (a := x) (b := y) hkx (by omega) y1
      omega
  · refine ltx_asy hl2 ⟨d, d1, fun i hi => ?_, ?_⟩
    · rw [nxG_lo hi]; exact d2 i hi
    · rw [nxG_k, ← e2]
      exact p4 e j hed2 (by omega) p3
/-- the last order -/
theorem nx_end {n : Nat} {f P : Nat → Nat} (hf : pm n f) (hP : pm n P) (h : ∀ i, i + 1 < n → f (i + 1) < f i) : ¬ ltx n f P := by
  have desc : ∀ b a, a < b → b < n → f b < f a := by
    intro b
    induction b with
    | zero => intro a h1; omega
    | succ b ih =>
      intro a h1 h2
      have h3 := h b h2
      by_cases z : a = b
      · rw [z]; exact h3
      · have := ih a (by omega) (by omega); omega
  intro ⟨d, d1, d2, d3⟩
  obtain ⟨e, e1, e2⟩ := pm_sur n f hf (P d) (hP.1 d d1)
  have hed : d ≤ e := by
    apply Classical.byContradiction
    intro z
    have h1 := d2 e (by omega)
    have h2 := hP.2 e d e1 d1 (by rw [← h1]; exact e2)
    omega
  by_cases z : d = e
  · subst z; omega
  · have := desc e d (by omega) e1
    omega
theorem nx_beg {n : Nat} {P : Nat → Nat} (hP : pm n P) : ¬ ltx n P (fun i => i) := by
  intro ⟨d, d1, d2, d3⟩
  have d3 : P d < d := d3
  have h1 : P (P d) = P d := d2 (P d) d3
  have := hP.2 (P d) d (by omega) d1 h1
  omega
