def adL (q : Nat) (u : UO) (q2 : Nat) (u2 : Nat → Nat) : List Nat := [q, u.1.1, (u.1.2.1.1 1), (u.1.2.1.1 2), (u.1.2.1.1 3), u.2.1.1, (u.2.1.2 1), u.2.2.1.1, (u.2.2.1.2 1), (u.2.2.1.2 2), (u.2.2.1.2 3), (u.2.2.1.2 4), (u.2.2.1.2 5), (u.2.2.1.2 6), (u.2.2.1.2 7), (u.2.2.1.2 8), (u.2.2.1.2 9), (u.2.2.1.2 10), (u.2.2.1.2 11), (u.2.2.1.2 12), (u.2.2.1.2 13), u.2.2.2.1.1, (u.2.2.2.1.2 1), (u.2.2.2.1.2 2), (u.2.2.2.1.2 3), (u.2.2.2.1.2 4), (u.2.2.2.1.2 5), (u.2.2.2.1.2 6), (u.2.2.2.1.2 7), (u.2.2.2.1.2 8), (u.2.2.2.1.2 9), (u.2.2.2.1.2 10), (u.2.2.2.1.2 11), (u.2.2.2.1.2 12), (u.2.2.2.1.2 13), u.2.2.2.2.1.1, (u.2.2.2.2.1.2 1), (u.2.2.2.2.1.2 2), (u.2.2.2.2.1.2 3), (u.2.2.2.2.1.2 4), (u.2.2.2.2.1.2 5), (u.2.2.2.2.1.2 6), (u.2.2.2.2.1.2 7), (u.2.2.2.2.1.2 8), (u.2.2.2.2.1.2 9), (u.2.2.2.2.1.2 10), (u.2.2.2.2.1.2 11), (u.2.2.2.2.1.2 12), (u.2.2.2.2.1.2 13), u.2.2.2.2.2.1.1, (u.2.2.2.2.2.1.2 1), (u.2.2.2.2.2.1.2 2), (u.2.2.2.2.2.1.2 3), (u.2.2.2.2.2.1.2 4), (u.2.2.2.2.2.1.2 5), (u.2.2.2.2.2.1.2 6), (u.2.2.2.2.2.1.2 7), (u.2.2.2.2.2.1.2 8), (u.2.2.2.2.2.1.2 9), (u.2.2.2.2.2.1.2 10), (u.2.2.2.2.2.1.2 11), (u.2.2.2.2.2.1.2 12), (u.2.2.2.2.2.1.2 13), u.2.2.2.2.2.2.1.1, u.2.2.2.2.2.2.2.1.1, u.2.2.2.2.2.2.2.1.2.1.1, (u.2.2.2.2.2.2.2.1.2.1.2 1), (u.2.2.2.2.2.2.2.1.2.1.2 2), (u.2.2.2.2.2.2.2.1.2.1.2 3), (u.2.2.2.2.2.2.2.1.2.1.2 4), (u.2.2.2.2.2.2.2.1.2.1.2 5), (u.2.2.2.2.2.2.2.1.2.1.2 6), (u.2.2.2.2.2.2.2.1.2.1.2 7), (u.2.2.2.2.2.2.2.1.2.1.2 8), (u.2.2.2.2.2.2.2.1.2.1.2 9), (u.2.2.2.2.2.2.2.1.2.1.2 10), (u.2.2.2.2.2.2.2.1.2.1.2 11), (u.2.2.2.2.2.2.2.1.2.1.2 12), (u.2.2.2.2.2.2.2.1.2.1.2 13), u.2.2.2.2.2.2.2.1.2.2, (u2 14), u.2.2.2.2.2.2.2.2.1.1, (u.2.2.2.2.2.2.2.2.1.2 1), (u.2.2.2.2.2.2.2.2.1.2 2), u.2.2.2.2.2.2.2.2.2.1, (u.2.2.2.2.2.2.2.2.2.2 1), q2, (u2 1), (u2 2), (u2 3), (u2 4), (u2 5), (u2 6), (u2 7), (u2 8), (u2 9), (u2 10), (u2 11), (u2 12), (u2 13)]
def adr (q : Nat) (u : UO) (q2 : Nat) (u2 : Nat → Nat) (ex : Nat → Nat) (k : Nat) : Nat := if k < 100 then (adL q u q2 u2).getD k 0 else ex k
def m0 (g : Nat → Int32) : xM := (fun k => if k = 3 then g else if k = 87 then laneF else if k = 63 ∨ k = 79 then fun j => if j = 0 then 1 else 0 else fun _ => 0, fun _ _ => 0)
theorem RC_0 : RC ((0 : Int32), (0 : Int32), (0 : Int32), (0 : Int32), (0 : Int32), (fun _ => 0), (fun _ => 0), (fun _ => 0), (fun _ => 0), (fun _ => 0), (fun _ => 0), (fun _ => 0)) ((fun _ => 0), (fun _ => 0), (fun _ => 0), (fun _ => 0), (fun _ => 0), (fun _ => 0)) 0 (fun _ => 0) (fun _ => 0) := by
  have z : ∀ h : Nat, ¬ h < ix (0 : Int32) := fun h => by rw [show ix (0 : Int32) = 0 from rfl]; omega
  refine ⟨⟨⟨rfl, rfl, rfl, rfl, rfl⟩, fun b hb => absurd hb (z b), fun b hb => absurd hb (z b)⟩, ⟨fun b _ => ⟨rfl, rfl, rfl, rfl⟩, fun b _ => ⟨rfl, rfl⟩⟩, rfl, ⟨⟨⟨by decide, by decide⟩, ⟨by decide, by decide⟩, Or.inl rfl, ⟨by decide, by decide⟩, ⟨by decide, by decide⟩⟩, fun b hb => absurd hb (z b), fun b hb => absurd hb (z b), fun b => ?_⟩, fun b hb => absurd hb (z b), fun b hb => absurd hb (z b)⟩
  show cnt _ 0 ≤ 4
  exact Nat.zero_le 4
theorem REL_0 {g : Nat → Int32} (hg : ∀ j, j < 8 → g j = -1) : REL (m0 g) := by
  refine REL.mk (fun r hr => Or.inl ⟨hg r hr, laneF_m r hr⟩) ⟨rfl, (show bt (0 : Int32) 0 400 from ⟨by decide, by decide⟩), fun i hi => ?_⟩ RC_0 rfl RC_0 RC_0 rfl rfl rfl rfl ⟨rfl, (show bt (0 : Int32) 0 16 from ⟨by decide, by decide⟩), fun i hi => ?_⟩ rfl ⟨fun z => absurd rfl z, fun z => absurd rfl z⟩
  · exact absurd hi (by show ¬ i < 0; omega)
  · exact absurd hi (by show ¬ i < 0; omega)
set_option maxRecDepth 200000 in
theorem wl_0 (l : Launch) (D : va_G) (cI cB cZ : ClassId) (v : Value) (q : Nat) (u : UO) (q2 : Nat) (u2 ex : Nat → Nat) : wl (l, D, adr q u q2 u2 ex, cI, cB, cZ, v) (m0 u.1.2.1.2) = (wk_OID cI cB cZ q u ++ wk_Model cI cB cZ q2 u2).take 80 ++ ((wk_OID cI cB cZ q u ++ wk_Model cI cB cZ q2 u2).drop 99 ++ ((wk_OID cI cB cZ q u ++ wk_Model cI cB cZ q2 u2).drop 80).take 19) := by
  rfl
set_option maxRecDepth 200000 in
theorem wk_len (cI cB cZ : ClassId) (q : Nat) (u : UO) (q2 : Nat) (u2 : Nat → Nat) : (wk_OID cI cB cZ q u ++ wk_Model cI cB cZ q2 u2).length = 100 := by
  rfl
/-- the last of a hundred comes to place 80 -/
def sel (k : Nat) : Nat := if k < 80 then k else if k = 80 then 99 else k - 1
theorem sel_at {L : va_W} (hL : L.length = 100) {k : Nat} {q : Nat × va_E} (h : (L.take 80 ++ (L.drop 99 ++ (L.drop 80).take 19))[k]? = some q) : k < 100 ∧ L[sel k]? = some q := by
  have hl : k < 100 := by
    have := (List.getElem?_eq_some_iff.mp h).1
    simp only [List.length_append, List.length_take, List.length_drop, hL] at this
    omega
  refine ⟨hl, ?_⟩
  unfold sel
  by_cases h1 : k < 80
  · rw [List.getElem?_append_left (by rw [List.length_take, hL]; omega), List.getElem?_take_of_lt h1] at h
    rw [if_pos h1]; exact h
  · have e80 : (L.take 80).length = 80 := by rw [List.length_take, hL]; rfl
    have e1 : (L.drop 99).length = 1 := by rw [List.length_drop, hL]
    rw [List.getElem?_append_right (by rw [e80]; omega), e80] at h
    rw [if_neg h1]
    by_cases h2 : k = 80
    · rw [if_pos h2]
      rw [List.getElem?_append_left (by rw [e1]; omega), List.getElem?_drop, h2] at h
      exact h
    · rw [if_neg h2]
      rw [List.getElem?_append_right (by rw [e1]; omega), e1, List.getElem?_take_of_lt (by omega), List.getElem?_drop, show 80 + (k - 80 - 1) = k - 1 by omega] at h
      exact h
theorem sel_v (k : Nat) : (k < 80 ∧ sel k = k) ∨ (k = 80 ∧ sel k = 99) ∨ (80 < k ∧ sel k = k - 1) := by
  unfold sel
  by_cases a : k < 80
  · exact Or.inl ⟨a, if_pos a⟩
  · rw [if_neg a]
    by_cases b : k = 80
    · exact Or.inr (Or.inl ⟨b, if_pos b⟩)
    · exact Or.inr (Or.inr ⟨by omega, if_neg b⟩)
theorem sel_P {D : va_G} {L : va_W} {H : Heap} (hL : L.length = 100) (h : va_P D xcl L H) : va_P D xcl (L.take 80 ++ (L.drop 99 ++ (L.drop 80).take 19)) H := fun k q hk => h _ q (sel_at hL hk).2
theorem sel_D {A : Nat → Prop} {L : va_W} (hL : L.length = 100) (h : va_D A L) : va_D A (L.take 80 ++ (L.drop 99 ++ (L.drop 80).take 19)) := by
  refine ⟨fun i j p q hi hj e => ?_, fun k q hk => h.2 _ q (sel_at hL hk).2⟩
  obtain ⟨i1, i2⟩ := sel_at hL hi
  obtain ⟨j1, j2⟩ := sel_at hL hj
  have := h.1 _ _ p q i2 j2 e
  have si := sel_v i
  have sj := sel_v j
  omega

