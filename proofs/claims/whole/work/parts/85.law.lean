/-- what lies outside at the law's entry -/
theorem ex_0 {s : State} {b : Nat} (hts0 : ∀ w ∈ lw_tbl, w.before #[Value.ref b] s = true) (hgv : (Jvm.Cond.and given_1 narrow_1).before #[Value.ref b] s = true) : ∃ (ex : Nat → Nat) (v : Value), v.category = 1 ∧ ∀ G : xG, G.2.2.2.2.2.2 = v → (∀ k, 100 ≤ k → G.2.2.1 k = ex k) → (∀ q, xA G q → s.heap.size ≤ q) → xEx G s s.heap := by
  have hgf := flat_of_before _ hgv
  have hA0 : ∀ a : Nat, a < s.heap.size → ¬ (fun q : Nat => s.heap.size ≤ q) a := fun a h z => by have z : s.heap.size ≤ a := z; omega
  obtain ⟨adK, adV, hS, hev⟩ := vk_Sof (args := #[Value.ref b]) (s := s) (N := 4) (tm := fun i => .string "OverInDinghy$Reader" ([49, 68, 34, 93].getD i 0)) (len := [3, 3, 4, 4]) (byt := [[115, 101, 97], [109, 117, 100], [98, 111, 97, 116], [104, 97, 110, 100]]) (A := fun q : Nat => s.heap.size ≤ q)
    (fun i hi => by rcases (show i = 0 ∨ i = 1 ∨ i = 2 ∨ i = 3 by omega) with rfl | rfl | rfl | rfl <;> decide)
    (fun i hi => by rcases (show i = 0 ∨ i = 1 ∨ i = 2 ∨ i = 3 by omega) with rfl | rfl | rfl | rfl <;> exact hgf _ (by decide +kernel))
    (fun i hi => by rcases (show i = 0 ∨ i = 1 ∨ i = 2 ∨ i = 3 by omega) with rfl | rfl | rfl | rfl <;> exact hgf _ (by decide +kernel))
    (fun i hi => by rcases (show i = 0 ∨ i = 1 ∨ i = 2 ∨ i = 3 by omega) with rfl | rfl | rfl | rfl <;> exact hgf _ (by decide +kernel))
    (fun i hi => by rcases (show i = 0 ∨ i = 1 ∨ i = 2 ∨ i = 3 by omega) with rfl | rfl | rfl | rfl <;> exact hgf _ (by decide +kernel))
    (fun i hi j hj => by
      rcases (show i = 0 ∨ i = 1 ∨ i = 2 ∨ i = 3 by omega) with rfl | rfl | rfl | rfl
      · have hj : j < 3 := hj
        rcases (show j = 0 ∨ j = 1 ∨ j = 2 by omega) with rfl | rfl | rfl <;> exact hgf _ (by decide +kernel)
      · have hj : j < 3 := hj
        rcases (show j = 0 ∨ j = 1 ∨ j = 2 by omega) with rfl | rfl | rfl <;> exact hgf _ (by decide +kernel)
      · have hj : j < 4 := hj
        rcases (show j = 0 ∨ j = 1 ∨ j = 2 ∨ j = 3 by omega) with rfl | rfl | rfl | rfl <;> exact hgf _ (by decide +kernel)
      · have hj : j < 4 := hj
        rcases (show j = 0 ∨ j = 1 ∨ j = 2 ∨ j = 3 by omega) with rfl | rfl | rfl | rfl <;> exact hgf _ (by decide +kernel))
    (fun i j hi hj hij => by
      rcases (show i = 0 ∨ i = 1 ∨ i = 2 ∨ i = 3 by omega) with rfl | rfl | rfl | rfl <;> rcases (show j = 0 ∨ j = 1 ∨ j = 2 ∨ j = 3 by omega) with rfl | rfl | rfl | rfl <;> first | exact absurd rfl hij | exact Or.inl (hgf _ (by decide +kernel)) | exact Or.inr (hgf _ (by decide +kernel))) hA0

  obtain ⟨t0, e0, hT0⟩ := va_Tof (args := #[Value.ref b]) (s := s) (tm := .static "OverInDinghy$Asks" "PARENT" "[I") (ty := .int) (N := 6) (f := fun j => .int (xc (1020 + 0) j)) (A := fun q : Nat => s.heap.size ≤ q) (by decide) (hgf _ (by decide +kernel)) (va_eqt (hgf _ (by decide +kernel))) (fun j hj => by
    rcases (show j = 0 ∨ j = 1 ∨ j = 2 ∨ j = 3 ∨ j = 4 ∨ j = 5 by omega) with rfl | rfl | rfl | rfl | rfl | rfl <;> exact va_eqt (hgf _ (by decide +kernel))) hA0
  have hZ0 := va_Zof (A := fun q : Nat => s.heap.size ≤ q) (hts0 (.laysStatic "OverInDinghy$Asks" "PARENT" "[I") (List.mem_of_getElem? (i := 880) (by decide +kernel))) (hts0 (.initialized "OverInDinghy$Asks") (List.mem_of_getElem? (i := 83) (by decide +kernel))) e0 hA0
  obtain ⟨t1, e1, hT1⟩ := va_Tof (args := #[Value.ref b]) (s := s) (tm := .static "OverInDinghy$Asks" "SIZE_BODY" "[I") (ty := .int) (N := 6) (f := fun j => .int (xc (1020 + 1) j)) (A := fun q : Nat => s.heap.size ≤ q) (by decide) (hgf _ (by decide +kernel)) (va_eqt (hgf _ (by decide +kernel))) (fun j hj => by
    rcases (show j = 0 ∨ j = 1 ∨ j = 2 ∨ j = 3 ∨ j = 4 ∨ j = 5 by omega) with rfl | rfl | rfl | rfl | rfl | rfl <;> exact va_eqt (hgf _ (by decide +kernel))) hA0
  have hZ1 := va_Zof (A := fun q : Nat => s.heap.size ≤ q) (hts0 (.laysStatic "OverInDinghy$Asks" "SIZE_BODY" "[I") (List.mem_of_getElem? (i := 894) (by decide +kernel))) (hts0 (.initialized "OverInDinghy$Asks") (List.mem_of_getElem? (i := 83) (by decide +kernel))) e1 hA0
  obtain ⟨t2, e2, hT2⟩ := va_Tof (args := #[Value.ref b]) (s := s) (tm := .static "OverInDinghy$Asks" "MARK_BODY" "[I") (ty := .int) (N := 6) (f := fun j => .int (xc (1020 + 2) j)) (A := fun q : Nat => s.heap.size ≤ q) (by decide) (hgf _ (by decide +kernel)) (va_eqt (hgf _ (by decide +kernel))) (fun j hj => by
    rcases (show j = 0 ∨ j = 1 ∨ j = 2 ∨ j = 3 ∨ j = 4 ∨ j = 5 by omega) with rfl | rfl | rfl | rfl | rfl | rfl <;> exact va_eqt (hgf _ (by decide +kernel))) hA0
  have hZ2 := va_Zof (A := fun q : Nat => s.heap.size ≤ q) (hts0 (.laysStatic "OverInDinghy$Asks" "MARK_BODY" "[I") (List.mem_of_getElem? (i := 896) (by decide +kernel))) (hts0 (.initialized "OverInDinghy$Asks") (List.mem_of_getElem? (i := 83) (by decide +kernel))) e2 hA0
  have hZc := va_Zof (A := fun q : Nat => s.heap.size ≤ q) (hts0 (.laysStatic "java/lang/String" "COMPACT_STRINGS" "Z") (List.mem_of_getElem? (i := 491) (by decide +kernel))) (hts0 (.initialized "java/lang/String") (List.mem_of_getElem? (i := 86) (by decide +kernel))) (va_eqt (hgf (.eq (.static "java/lang/String" "COMPACT_STRINGS" "Z") (.int 1)) (by decide +kernel))) hA0
  have hZf : ∃ v : Value, v.category = 1 ∧ va_Z "jdk/internal/util/Preconditions" "SIOOBE_FORMATTER" "Ljava/util/function/BiFunction;" v (fun q : Nat => s.heap.size ≤ q) s s.heap := by
    rcases va_Zqof (A := fun q : Nat => s.heap.size ≤ q) (hts0 (.laysStatic "jdk/internal/util/Preconditions" "SIOOBE_FORMATTER" "Ljava/util/function/BiFunction;") (List.mem_of_getElem? (i := 507) (by decide +kernel))) (hts0 (.initialized "jdk/internal/util/Preconditions") (List.mem_of_getElem? (i := 88) (by decide +kernel))) (hgf _ (by decide +kernel)) hA0 with h | ⟨t, h⟩
    · exact ⟨_, rfl, h⟩
    · exact ⟨_, rfl, h⟩
  obtain ⟨v, hv1, hZf⟩ := hZf
  refine ⟨fun k => if k < 1010 then adK (k - 1000) else if k < 1020 then adV (k - 1010) else [t0, t1, t2].getD (k - 1020) 0, v, hv1, fun G hG1 hG2 hG3 => ⟨fun i hi => ?_, hZc.narrow hG3, by rw [hG1]; exact hZf.narrow hG3, fun i hi => ?_, fun i hi => ?_⟩⟩
  · rw [hG2 (1020 + i) (by omega)]
    rcases (show i = 0 ∨ i = 1 ∨ i = 2 by omega) with rfl | rfl | rfl
    · exact ⟨hZ0.narrow hG3, hT0.narrow hG3⟩
    · exact ⟨hZ1.narrow hG3, hT1.narrow hG3⟩
    · exact ⟨hZ2.narrow hG3, hT2.narrow hG3⟩
  · rw [hG2 (1000 + i) (by omega)]
    rcases (show i = 0 ∨ i = 1 ∨ i = 2 ∨ i = 3 by omega) with rfl | rfl | rfl | rfl
    · exact vk_R.of (hts0 (.stringRef "OverInDinghy$Reader" 49 "sea") (List.mem_of_getElem? (i := 473) (by decide +kernel))) (hev 0 (by decide))
    · exact vk_R.of (hts0 (.stringRef "OverInDinghy$Reader" 68 "mud") (List.mem_of_getElem? (i := 538) (by decide +kernel))) (hev 1 (by decide))
    · exact vk_R.of (hts0 (.stringRef "OverInDinghy$Reader" 34 "boat") (List.mem_of_getElem? (i := 543) (by decide +kernel))) (hev 2 (by decide))
    · exact vk_R.of (hts0 (.stringRef "OverInDinghy$Reader" 93 "hand") (List.mem_of_getElem? (i := 552) (by decide +kernel))) (hev 3 (by decide))
  · rw [hG2 (1000 + i) (by omega), hG2 (1010 + i) (by omega)]
    have h := hS.1 i hi
    rcases (show i = 0 ∨ i = 1 ∨ i = 2 ∨ i = 3 by omega) with rfl | rfl | rfl | rfl
    all_goals exact ⟨h.1.narrow hG3, h.2.1.narrow hG3, h.2.2.1.narrow hG3, h.2.2.2.narrow hG3⟩

