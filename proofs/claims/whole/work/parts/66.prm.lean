def sm (F : Nat → Nat) : Nat → Nat
  | 0 => 0
  | n + 1 => sm F n + F n
theorem sm_c {F F' : Nat → Nat} : ∀ {n : Nat}, (∀ i, i < n → F i = F' i) → sm F n = sm F' n
  | 0, _ => rfl
  | n + 1, h => by rw [sm, sm, sm_c (fun i hi => h i (by omega)), h n (by omega)]
theorem sm_1 {F F' : Nat → Nat} {j : Nat} : ∀ {n : Nat}, j < n → (∀ i, i < n → i ≠ j → F' i = F i) → sm F' n + F j = sm F n + F' j
  | 0, h, _ => absurd h (by omega)
  | n + 1, hj, h => by
    show sm F' n + F' n + F j = sm F n + F n + F' j
    by_cases z : j = n
    · subst z
      rw [sm_c (F := F') (F' := F) (fun i hi => h i (by omega) (by omega))]
      omega
    · have ih := sm_1 (F := F) (F' := F') (j := j) (n := n) (by omega) (fun i hi hij => h i (by omega) hij)
      rw [h n (by omega) (by omega)]
      omega
theorem sm_2 {F F' : Nat → Nat} {j k : Nat} {n : Nat} (hj : j < k) (hk : k < n) (h : ∀ i, i < n → i ≠ j → i ≠ k → F' i = F i) : sm F' n + F j + F k = sm F n + F' j + F' k := by
  have h1 : sm (fun i => if i = j then F' j else F i) n + F j = sm F n + (if j = j then F' j else F j) := sm_1 (F := F) (F' := fun i => if i = j then F' j else F i) (j := j) (n := n) (by omega) (fun i hi hij => if_neg hij)
  have h2 : sm F' n + (if k = j then F' j else F k) = sm (fun i => if i = j then F' j else F i) n + F' k := sm_1 (F := fun i => if i = j then F' j else F i) (F' := F') (j := k) (n := n) hk (fun i hi hik => by
    by_cases z : i = j
    · rw [z]; exact (if_pos rfl).symm
    · rw [h i hi z hik]; exact (if_neg z).symm)
  rw [if_pos rfl] at h1
  rw [if_neg (by omega)] at h2
  omega
/-- what an order costs -/
def ct (r M : Nat) (w f : Nat → Nat) (n : Nat) : Nat := sm (fun i => w (f i) * (i / r + 1) * M) n
def swp (f : Nat → Nat) (j k : Nat) : Nat → Nat := fun i => if i = j then f k else if i = k then f j else f i
theorem swp_j (f : Nat → Nat) (j k : Nat) : swp f j k j = f k := if_pos rfl
theorem swp_k {f : Nat → Nat} {j k : Nat} (h : j < k) : swp f j k k = f j := by unfold swp; rw [if_neg (by omega), if_pos rfl]
theorem swp_o {f : Nat → Nat} {j k i : Nat} (h1 : i ≠ j) (h2 : i ≠ k) : swp f j k i = f i := by unfold swp; rw [if_neg h1, if_neg h2]
theorem swp_pm {n j k : Nat} {f : Nat → Nat} (hf : pm n f) (h : j < k) (hk : k < n) : pm n (swp f j k) := by
  have pl : ∀ i, i < n → ∃ p, p < n ∧ swp f j k i = f p ∧ ((i = j ∧ p = k) ∨ (i = k ∧ p = j) ∨ (i ≠ j ∧ i ≠ k ∧ p = i)) := by
    intro i hi
    by_cases z1 : i = j
    · exact ⟨k, hk, by rw [z1, swp_j], Or.inl ⟨z1, rfl⟩⟩
    · by_cases z2 : i = k
      · exact ⟨j, by omega, by rw [z2, swp_k h], Or.inr (Or.inl ⟨z2, rfl⟩)⟩
      · exact ⟨i, hi, swp_o z1 z2, Or.inr (Or.inr ⟨z1, z2, rfl⟩)⟩
  refine ⟨fun i hi => ?_, fun a b ha hb he => ?_⟩
  · obtain ⟨p, q1, q2, _⟩ := pl i hi
    rw [q2]; exact hf.1 p q1
  · obtain ⟨p, q1, q2, q3⟩ := pl a ha
    obtain ⟨q, r1, r2, r3⟩ := pl b hb
    rw [q2, r2] at he
    have e := hf.2 p q q1 r1 he
    omega
theorem swp_lt {n j k : Nat} {f : Nat → Nat} (h : j < k) (hk : k < n) (hd : f k < f j) : ltx n (swp f j k) f := ⟨j, by omega, fun i hi => swp_o (by omega) (by omega), by rw [swp_j]; exact hd⟩
theorem ct_swp {n j k r M : Nat} {w f : Nat → Nat} (h : j < k) (hk : k < n) : ct r M w (swp f j k) n + w (f j) * (j / r + 1) * M + w (f k) * (k / r + 1) * M = ct r M w f n + w (f k) * (j / r + 1) * M + w (f j) * (k / r + 1) * M := by
  have := sm_2 (F := fun i => w (f i) * (i / r + 1) * M) (F' := fun i => w (swp f j k i) * (i / r + 1) * M) h hk (fun i hi z1 z2 => by rw [swp_o z1 z2])
  simp only [swp_j, swp_k h] at this
  exact this
theorem mul_x {a b A B M : Nat} (h1 : a < b) (h2 : A < B) (hM : 0 < M) : b * A * M + a * B * M < a * A * M + b * B * M := by
  obtain ⟨x, rfl⟩ : ∃ x, b = a + x := ⟨b - a, by omega⟩
  obtain ⟨y, rfl⟩ : ∃ y, B = A + y := ⟨B - A, by omega⟩
  have hxy : 0 < x * y * M := Nat.mul_pos (Nat.mul_pos (by omega) (by omega)) hM
  have e1 : (a + x) * A * M = a * A * M + x * A * M := by rw [Nat.add_mul, Nat.add_mul]
  have e2 : a * (A + y) * M = a * A * M + a * y * M := by rw [Nat.mul_add, Nat.add_mul]
  have e3 : (a + x) * (A + y) * M = a * A * M + a * y * M + (x * A * M + x * y * M) := by
    rw [Nat.add_mul, Nat.mul_add, Nat.mul_add, Nat.add_mul, Nat.add_mul, Nat.add_mul]
  rw [e1, e2, e3]
  omega
/-- what a best order keeps to -/
def tP (n r : Nat) (w f : Nat → Nat) : Prop := ∀ j k, j < k → k < n → (j / r < k / r → w (f k) ≤ w (f j)) ∧ ((j / r = k / r ∨ w (f j) = w (f k)) → f j < f k)
theorem tP_best {n r M : Nat} {w f : Nat → Nat} (hM : 0 < M) (hf : pm n f) (hb : ∀ P, pm n P → ct r M w f n ≤ ct r M w P n ∧ (ct r M w f n = ct r M w P n → ¬ ltx n P f)) : tP n r w f := by
  intro j k hj hk
  obtain ⟨b1, b2⟩ := hb _ (swp_pm hf hj hk)
  have hc := ct_swp (r := r) (M := M) (w := w) (f := f) hj hk
  refine ⟨fun hu => ?_, fun hu => ?_⟩
  · apply Classical.byContradiction
    intro z
    have := mul_x (a := w (f j)) (b := w (f k)) (A := j / r + 1) (B := k / r + 1) (M := M) (by omega) (by omega) hM
    omega
  · have hne : f j ≠ f k := fun z => by have := hf.2 j k (by omega) hk z; omega
    apply Classical.byContradiction
    intro z
    refine b2 ?_ (swp_lt hj hk (by omega))
    rcases hu with hu | hu
    · rw [hu] at hc; omega
    · rw [hu] at hc; omega
theorem tP_half {n r : Nat} {w B G : Nat → Nat} (hr : r = 1 ∨ r = 2) (hB : pm n B) (hG : pm n G) (tB : tP n r w B) (tG : tP n r w G) {j k l : Nat} (hjk : j < k) (hk : k < n) (hjl : j < l) (hl : l < n) (hag : ∀ i, i < j → B i = G i) (hGk : G k = B j) (hBl : B l = G j) (hne : B j ≠ G j) (h1 : j / r = k / r) (h2 : j / r < l / r) : False := by
  have hr2 : r = 2 := by
    rcases hr with rfl | rfl
    · simp at h1; omega
    · rfl
  subst hr2
  have hkj : k = j + 1 := by omega
  have hlj : j + 1 < l := by omega
  have hj1 : j + 1 < n := by omega
  obtain ⟨p, p1, p2⟩ := pm_sur n G hG (B (j + 1)) (hB.1 _ hj1)
  have z1 : B (j + 1) ≠ B j := fun z => by have := hB.2 _ _ hj1 (by omega) z; omega
  have z2 : B (j + 1) ≠ G j := fun z => by have := hB.2 _ _ hj1 hl (z.trans hBl.symm); omega
  have hpj : j < p := by
    rcases Nat.lt_trichotomy p j with z | z | z
    · have h3 := hag p z
      have h4 := hB.2 p (j + 1) (by omega) hj1 (h3.trans p2)
      omega
    · subst z; exact absurd p2.symm z2
    · exact z
  have hpk : p ≠ k := fun z => by subst z; exact z1 (p2.symm.trans hGk)
  have g1 := tG j p hpj p1
  have b1 := tB (j + 1) l hlj hl
  rw [p2] at g1
  rw [hBl] at b1
  have e1 := g1.1 (by omega)
  have e2 := b1.1 (by omega)
  have e3 := g1.2 (Or.inr (by omega))
  have e4 := b1.2 (Or.inr (by omega))
  omega
theorem tP_uni0 {n r : Nat} {w B G : Nat → Nat} (hr : r = 1 ∨ r = 2) (hB : pm n B) (hG : pm n G) (tB : tP n r w B) (tG : tP n r w G) {j : Nat} (hj : j < n) (hag : ∀ i, i < j → B i = G i) (hne : B j ≠ G j) : False := by
  obtain ⟨k, k1, k2⟩ := pm_sur n G hG (B j) (hB.1 j hj)
  obtain ⟨l, l1, l2⟩ := pm_sur n B hB (G j) (hG.1 j hj)
  have hjk : j < k := by
    rcases Nat.lt_trichotomy k j with z | z | z
    · have h3 := hag k z
      have h4 := hB.2 k j k1 hj (h3.trans k2)
      omega
    · subst z; exact absurd k2.symm hne
    · exact z
  have hjl : j < l := by
    rcases Nat.lt_trichotomy l j with z | z | z
    · have h3 := hag l z
      have h4 := hG.2 l j l1 hj (h3.symm.trans l2)
      omega
    · subst z; exact absurd l2 hne
    · exact z
  have g1 := tG j k hjk k1
  have b1 := tB j l hjl l1
  rw [k2] at g1
  rw [l2] at b1
  have m1 : j / r ≤ k / r := Nat.div_le_div_right (by omega)
  have m2 : j / r ≤ l / r := Nat.div_le_div_right (by omega)
  by_cases c1 : j / r = k / r <;> by_cases c2 : j / r = l / r
  · have e1 := g1.2 (Or.inl c1)
    have e2 := b1.2 (Or.inl c2)
    omega
  · exact tP_half hr hB hG tB tG hjk k1 hjl l1 hag k2 l2 hne c1 (by omega)
  · exact tP_half hr hG hB tG tB hjl l1 hjk k1 (fun i hi => (hag i hi).symm) l2 k2 (fun z => hne z.symm) c2 (by omega)
  · have e1 := g1.1 (by omega)
    have e2 := b1.1 (by omega)
    have e3 := g1.2 (Or.inr (by omega))
    have e4 := b1.2 (Or.inr (by omega))
    omega
theorem tP_uni {n r : Nat} {w B G : Nat → Nat} (hr : r = 1 ∨ r = 2) (hB : pm n B) (hG : pm n G) (tB : tP n r w B) (tG : tP n r w G) : ∀ i, i < n → B i = G i := by
  rcases ltx_tri (f := B) (g := G) n with h | h | h
  · exact h
  · obtain ⟨j, j1, j2, j3⟩ := h
    exact (tP_uni0 hr hB hG tB tG j1 j2 (by omega)).elim
  · obtain ⟨j, j1, j2, j3⟩ := h
    exact (tP_uni0 hr hB hG tB tG j1 (fun i hi => (j2 i hi).symm) (by omega)).elim
