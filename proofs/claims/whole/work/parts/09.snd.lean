theorem okst_of : ∀ {ls : List Value} {i : Nat}, okst ls i → i < ls.length ∧ (∀ j v, j + 1 = i → ls[j]? = some v → ¬ v.category = 2)
  | [], _, h => h.elim
  | _ :: _, 0, _ => ⟨by simp, fun j v h => by omega⟩
  | v0 :: [], 1, h => by cases v0 <;> exact h.elim
  | v0 :: v1 :: l, 1, h => by
    refine ⟨by simp, fun j v hj hv => ?_⟩
    have : j = 0 := by omega
    subst this
    simp at hv
    subst hv
    cases v0 <;> first | exact h.elim | (simp [Value.category])
  | v0 :: l, n + 2, h => by
    have h' : okst l (n + 1) := by cases v0 <;> exact h
    obtain ⟨h1, h2⟩ := okst_of h'
    refine ⟨by simp; omega, fun j v hj hv => ?_⟩
    cases j with
    | zero => omega
    | succ j => exact h2 j v (by omega) (by simpa using hv)
def prs1 (G : xG) (ls : List Value) (i : Nat) : Option (Nat × Value) := if ls.getD i Value.null = Value.null then Option.none else Option.some (i, cv G (ls.getD i Value.null))
def prs (G : xG) (ls : List Value) : List (Nat × Value) := (List.range ls.length).filterMap (prs1 G ls)
theorem prs_mem {G : xG} {ls : List Value} {i : Nat} {v : Value} (h : ls[i]? = some v) (hv : v ≠ .null) : (i, cv G v) ∈ prs G ls := by
  refine List.mem_filterMap.mpr ⟨i, List.mem_range.mpr (List.getElem?_eq_some_iff.mp h).1, ?_⟩
  have e : ls.getD i Value.null = v := by rw [List.getD_eq_getElem?_getD, h]; rfl
  unfold prs1
  rw [e, if_neg hv]
theorem lrp_has {G : xG} {ls : List Value} {sl : Array Slot} {nL : Nat} (h : lrp G ls sl nL) : lv_has sl nL (prs G ls) := by
  refine ⟨h.1, h.2.1, fun q hq => ?_⟩
  obtain ⟨i, hi, hq⟩ := List.mem_filterMap.mp hq
  have hl : i < ls.length := List.mem_range.mp hi
  have e : ls.getD i Value.null = ls[i] := by rw [List.getD_eq_getElem?_getD, List.getElem?_eq_getElem hl]; rfl
  unfold prs1 at hq
  rw [e] at hq
  by_cases hn : ls[i] = Value.null
  · rw [if_pos hn] at hq; cases hq
  · rw [if_neg hn] at hq
    cases hq
    exact h.2.2 i ls[i] (List.getElem?_eq_getElem hl) hn
theorem cv_cat (G : xG) {v : Value} (h : v ≠ .null) : (cv G v).category = v.category := by cases v <;> first | rfl | exact absurd rfl h
theorem lrp_set1 {G : xG} {ls : List Value} {sl' : Array Slot} {nL i : Nat} {w : Value} (hw : w ≠ .null) (ho : okst ls i) (h : lv_has sl' nL ((i, cv G w) :: (prs G ls).filter (fun q => !(q.1 == i) && !(q.1 + 1 == i && q.2.category == 2)))) : lrp G (ls.set i w) sl' nL := by
  obtain ⟨o1, o2⟩ := okst_of ho
  refine ⟨h.1, h.2.1, fun j v hj hv => ?_⟩
  by_cases e : j = i
  · subst e
    rw [List.getElem?_set_self o1] at hj
    cases hj
    exact h.2.2 _ List.mem_cons_self
  · rw [List.getElem?_set_ne (Ne.symm e)] at hj
    refine h.2.2 (j, cv G v) (List.mem_cons_of_mem _ (List.mem_filter.mpr ⟨prs_mem hj hv, ?_⟩))
    have h2 : ¬ (j + 1 = i ∧ (cv G v).category = 2) := fun q => o2 j v q.1 hj (by rw [← cv_cat G hv]; exact q.2)
    simp only [Bool.and_eq_true, Bool.not_eq_true', beq_eq_false_iff_ne, ne_eq, Bool.and_eq_false_iff]
    refine ⟨e, ?_⟩
    by_cases q : j + 1 = i
    · exact Or.inr fun z => h2 ⟨q, z⟩
    · exact Or.inl q
theorem lrp_set2 {G : xG} {ls : List Value} {sl' : Array Slot} {nL i : Nat} {x : Int64} (ho : okst ls i) (h1 : i + 1 < ls.length) (h : lv_has sl' nL ((i, Value.long x) :: (prs G ls).filter (fun q => !(q.1 == i) && (!(q.1 == i + 1) && !(q.1 + 1 == i && q.2.category == 2))))) : lrp G ((ls.set i (.long x)).set (i + 1) .null) sl' nL := by
  obtain ⟨o1, o2⟩ := okst_of ho
  refine ⟨h.1, h.2.1, fun j v hj hv => ?_⟩
  by_cases e1 : j = i + 1
  · subst e1
    rw [List.getElem?_set_self (by simp; exact h1)] at hj
    cases hj
    exact absurd rfl hv
  rw [List.getElem?_set_ne (Ne.symm e1)] at hj
  by_cases e : j = i
  · subst e
    rw [List.getElem?_set_self o1] at hj
    cases hj
    exact h.2.2 _ List.mem_cons_self
  · rw [List.getElem?_set_ne (Ne.symm e)] at hj
    refine h.2.2 (j, cv G v) (List.mem_cons_of_mem _ (List.mem_filter.mpr ⟨prs_mem hj hv, ?_⟩))
    have h2 : ¬ (j + 1 = i ∧ (cv G v).category = 2) := fun q => o2 j v q.1 hj (by rw [← cv_cat G hv]; exact q.2)
    simp only [Bool.and_eq_true, Bool.not_eq_true', beq_eq_false_iff_ne, ne_eq, Bool.and_eq_false_iff]
    refine ⟨e, e1, ?_⟩
    by_cases q : j + 1 = i
    · exact Or.inr fun z => h2 ⟨q, z⟩
    · exact Or.inl q
theorem lrp_lt {G : xG} {ls : List Value} {sl : Array Slot} {nL i : Nat} (hn : ls.length ≤ nL) (ho : okst ls i) : i < nL := Nat.lt_of_lt_of_le (okst_of ho).1 hn
section ST
variable {G : xG} {y : Nat} {Q : xQt} {pc : Nat} {ls st : List Value} {m : xM}
theorem k_istore {i : Nat} {x : Int32} (hn : ls.length ≤ (xe y).2.2.1) (hd : decode (xe y).2.1 pc = .ok (.istore i, 2)) (ho : okst ls i) (h : VK G y Q (pc + 2) (ls.set i (.int x)) st m) : VK G y Q pc ls (.int x :: st) m :=
  fun p e s mid args below meth c H locs sl C hP hS hL => lv_istore C.1 C.2.1 hd (lrp_has hL) (lrp_lt (G := G) (sl := sl) hn ho) rfl (fun sl' hl' => h p e s mid args below meth c H locs sl' C hP hS (lrp_set1 (w := .int x) (by simp) ho hl'))
theorem k_istore_n {i : Fin 4} {x : Int32} (hn : ls.length ≤ (xe y).2.2.1) (hd : decode (xe y).2.1 pc = .ok (.istore_n i, 1)) (ho : okst ls i.val) (h : VK G y Q (pc + 1) (ls.set i.val (.int x)) st m) : VK G y Q pc ls (.int x :: st) m :=
  fun p e s mid args below meth c H locs sl C hP hS hL => lv_istore_n C.1 C.2.1 hd rfl (lrp_has hL) (lrp_lt (G := G) (sl := sl) hn ho) rfl (fun sl' hl' => h p e s mid args below meth c H locs sl' C hP hS (lrp_set1 (w := .int x) (by simp) ho hl'))
theorem k_astore {i : Nat} {x : Nat} (hn : ls.length ≤ (xe y).2.2.1) (hd : decode (xe y).2.1 pc = .ok (.astore i, 2)) (ho : okst ls i) (h : VK G y Q (pc + 2) (ls.set i (.ref x)) st m) : VK G y Q pc ls (.ref x :: st) m :=
  fun p e s mid args below meth c H locs sl C hP hS hL => lv_astore C.1 C.2.1 hd (lrp_has hL) (lrp_lt (G := G) (sl := sl) hn ho) rfl (fun sl' hl' => h p e s mid args below meth c H locs sl' C hP hS (lrp_set1 (w := .ref x) (by simp) ho hl'))
theorem k_astore_n {i : Fin 4} {x : Nat} (hn : ls.length ≤ (xe y).2.2.1) (hd : decode (xe y).2.1 pc = .ok (.astore_n i, 1)) (ho : okst ls i.val) (h : VK G y Q (pc + 1) (ls.set i.val (.ref x)) st m) : VK G y Q pc ls (.ref x :: st) m :=
  fun p e s mid args below meth c H locs sl C hP hS hL => lv_astore_n C.1 C.2.1 hd rfl (lrp_has hL) (lrp_lt (G := G) (sl := sl) hn ho) rfl (fun sl' hl' => h p e s mid args below meth c H locs sl' C hP hS (lrp_set1 (w := .ref x) (by simp) ho hl'))
theorem k_lstore {i : Nat} {x : Int64} (hn : ls.length ≤ (xe y).2.2.1) (hd : decode (xe y).2.1 pc = .ok (.lstore i, 2)) (ho : okst ls i) (h1 : i + 1 < ls.length) (h : VK G y Q (pc + 2) ((ls.set i (.long x)).set (i + 1) .null) st m) : VK G y Q pc ls (.long x :: st) m :=
  fun p e s mid args below meth c H locs sl C hP hS hL => lv_lstore C.1 C.2.1 hd (lrp_has hL) (Nat.lt_of_lt_of_le h1 hn) rfl (fun sl' hl' => h p e s mid args below meth c H locs sl' C hP hS (lrp_set2 ho h1 hl'))
theorem k_lstore_n {i : Fin 4} {x : Int64} (hn : ls.length ≤ (xe y).2.2.1) (hd : decode (xe y).2.1 pc = .ok (.lstore_n i, 1)) (ho : okst ls i.val) (h1 : i.val + 1 < ls.length) (h : VK G y Q (pc + 1) ((ls.set i.val (.long x)).set (i.val + 1) .null) st m) : VK G y Q pc ls (.long x :: st) m :=
  fun p e s mid args below meth c H locs sl C hP hS hL => lv_lstore_n C.1 C.2.1 hd rfl (lrp_has hL) (Nat.lt_of_lt_of_le h1 hn) rfl (fun sl' hl' => h p e s mid args below meth c H locs sl' C hP hS (lrp_set2 ho h1 hl'))
theorem k_iinc {i : Nat} {n : Int} {x : Int32} (hn : ls.length ≤ (xe y).2.2.1) (hd : decode (xe y).2.1 pc = .ok (.iinc i n, 3)) (hl : ls[i]? = some (.int x)) (ho : okst ls i) (h : VK G y Q (pc + 3) (ls.set i (.int (x + Int32.ofInt n))) st m) : VK G y Q pc ls st m := by
  intro p e s mid args below meth c H locs sl C hP hS hL
  obtain ⟨k, hk⟩ := List.getElem?_of_mem (prs_mem (G := G) hl (by simp))
  exact lv_iinc C.1 C.2.1 hd (lrp_has hL) hk rfl (lrp_lt (G := G) (sl := sl) hn ho) rfl (fun sl' hl' => h p e s mid args below meth c H locs sl' C hP hS (lrp_set1 (w := .int (x + Int32.ofInt n)) (by simp) ho hl'))
theorem C_word {p : Program} {s : State} {mid : MethodId} {args : Array Value} {meth : Method} {c : Code} (C : Cx G y p s mid args meth c) {w : Cond} {i : Nat} (h : lw_tbl[i]? = some w) (g : goodWord w = true) : w.before args s = true := C.2.2.2.2.2.2.1 w (xg_of (List.mem_of_getElem? h) g)
theorem k_ldc {i : Nat} {v : Int32} {q : Nat} (hd : decode (xe y).2.1 pc = .ok (.ldc i, 2)) (hc : lw_tbl[q]? = some (Cond.constant (cn (xe y).2.2.2.2.1) i v)) (h : VK G y Q (pc + 2) ls (.int v :: st) m) : VK G y Q pc ls st m :=
  fun p e s mid args below meth c H locs sl C hP hS hL => W.ldc C.1 C.2.1 C.2.2.2.2.2.1 (C_word C hc rfl) rfl hd (h p e s mid args below meth c H locs sl C hP hS hL)
theorem k_ldc_w {i : Nat} {v : Int32} {q : Nat} (hd : decode (xe y).2.1 pc = .ok (.ldc_w i, 3)) (hc : lw_tbl[q]? = some (Cond.constant (cn (xe y).2.2.2.2.1) i v)) (h : VK G y Q (pc + 3) ls (.int v :: st) m) : VK G y Q pc ls st m :=
  fun p e s mid args below meth c H locs sl C hP hS hL => lv_ldcw C.1 C.2.1 C.2.2.2.2.2.1 (C_word C hc rfl) hd (h p e s mid args below meth c H locs sl C hP hS hL)
theorem k_ldc2 {i : Nat} {v : Int64} {q : Nat} (hd : decode (xe y).2.1 pc = .ok (.ldc2_w i, 3)) (hc : lw_tbl[q]? = some (Cond.constantLong (cn (xe y).2.2.2.2.1) i v)) (h : VK G y Q (pc + 3) ls (.long v :: st) m) : VK G y Q pc ls st m :=
  fun p e s mid args below meth c H locs sl C hP hS hL => W.ldc2 C.1 C.2.1 C.2.2.2.2.2.1 (C_word C hc rfl) rfl hd (h p e s mid args below meth c H locs sl C hP hS hL)
theorem k_ldcs {j : Nat} (hj : j < 4) (ho : (xe y).2.2.2.2.1 = 6) (hd : decode (xe y).2.1 pc = .ok (.ldc (xtxt.getD j (0, "", 0)).1, 2)) (h : VK G y Q (pc + 2) ls (.ref (1000 + j) :: st) m) : VK G y Q pc ls st m := by
  intro p e s mid args below meth c H locs sl C hP hS hL
  have hown : s.vm.findClass "OverInDinghy$Reader" = some mid.cls := by
    have := C.2.2.2.2.2.1
    rw [ho] at this
    exact this
  exact va_ldcS C.1 C.2.1 hown (C.2.2.2.2.2.2.2.2.1.2.2.2.1 j hj) hd (h p e s mid args below meth c H locs sl C hP hS hL)
theorem k_gets {i j : Nat} (hj : j < 3) (ho : (xe y).2.2.2.2.1 = 1) (hlk : Cond.fieldLink "OverInDinghy$Asks" i "OverInDinghy$Asks" (xsta.getD j "") "[I" ∈ lw_tbl) (hd : decode (xe y).2.1 pc = .ok (.getstatic i, 3)) (h : VK G y Q (pc + 3) ls (.ref (1020 + j) :: st) m) : VK G y Q pc ls st m := by
  intro p e s mid args below meth c H locs sl C hP hS hL
  have hown : s.vm.findClass "OverInDinghy$Asks" = some mid.cls := by
    have := C.2.2.2.2.2.1
    rw [ho] at this
    exact this
  exact va_gets C.1 C.2.1 (C.2.2.2.2.2.2.2.2.1.1 j hj).1 hS hown (C.2.2.2.2.2.2.1 _ (xg_of hlk rfl)) (fun _ h => h) hd (h p e s mid args below meth c H locs sl C hP hS hL)
theorem k_getc (ho : (xe y).2.2.2.2.1 = 13) (hd : decode (xe y).2.1 pc = .ok (.getstatic 38, 3)) (h : VK G y Q (pc + 3) ls (.int 1 :: st) m) : VK G y Q pc ls st m := by
  intro p e s mid args below meth c H locs sl C hP hS hL
  have hown : s.vm.findClass "java/lang/String" = some mid.cls := by
    have := C.2.2.2.2.2.1
    rw [ho] at this
    exact this
  exact va_gets C.1 C.2.1 C.2.2.2.2.2.2.2.2.1.2.1 hS hown (C.2.2.2.2.2.2.1 _ (xg_of xs3 rfl)) (fun _ h => h) hd (h p e s mid args below meth c H locs sl C hP hS hL)
theorem k_getf0 (ho : (xe y).2.2.2.2.1 = 13) (hd : decode (xe y).2.1 pc = .ok (.getstatic 1053, 3)) (h : VK G y Q (pc + 3) ls (.null :: st) m) : VK G y Q pc ls st m := by
  intro p e s mid args below meth c H locs sl C hP hS hL
  have hown : s.vm.findClass "java/lang/String" = some mid.cls := by
    have := C.2.2.2.2.2.1
    rw [ho] at this
    exact this
  exact va_gets C.1 C.2.1 C.2.2.2.2.2.2.2.2.1.2.2.1 hS hown (C.2.2.2.2.2.2.1 _ (xg_of xs4 rfl)) (fun _ h => h) hd (h p e s mid args below meth c H locs sl C hP hS hL)
theorem sh50 {k : Nat} (h : (sh k).1 = 50) : ∃ i, i < 4 ∧ k = 1000 + i := by
  unfold sh at h
  split at h
  · rename_i h1
    by_cases h2 : k < 100
    · exfalso
      have : ∀ j, j < 100 → ¬ (xshL.getD j (99, 0)).1 = 50 := by decide +kernel
      exact this k h2 h
    · rw [List.getD_eq_getElem?_getD, List.getElem?_eq_none (by rw [xshL_len]; omega)] at h
      simp at h
  · split at h
    · exact ⟨k - 1000, by omega, by omega⟩
    · exfalso
      split at h
      · simp at h
      · split at h
        · simp at h
        · split at h
          · simp at h
          · split at h
            · simp at h
            · split at h <;> simp at h
theorem sh51 {k : Nat} (h : (sh k).1 = 51) : ∃ i, i < 4 ∧ k = 1010 + i ∧ (sh k).2 = (xtxt.getD i (0, "", 0)).2.2 := by
  have hk : 1010 ≤ k ∧ k < 1014 := by
    unfold sh at h
    split at h
    · rename_i h1
      by_cases h2 : k < 100
      · exfalso
        have : ∀ j, j < 100 → ¬ (xshL.getD j (99, 0)).1 = 51 := by decide +kernel
        exact this k h2 h
      · rw [List.getD_eq_getElem?_getD, List.getElem?_eq_none (by rw [xshL_len]; omega)] at h
        simp at h
    · split at h
      · simp at h
      · split at h
        · simp at h
        · split at h
          · omega
          · split at h
            · omega
            · exfalso
              split at h
              · simp at h
              · split at h <;> simp at h
  refine ⟨k - 1010, by omega, by omega, ?_⟩
  rcases (show k = 1010 ∨ k = 1011 ∨ k = 1012 ∨ k = 1013 by omega) with rfl | rfl | rfl | rfl <;> rfl
theorem sh52 {k : Nat} (h : (sh k).1 = 52) : ∃ i, i < 3 ∧ k = 1020 + i ∧ (sh k).2 = 6 := by
  have hk : 1020 ≤ k ∧ k < 1023 := by
    unfold sh at h
    split at h
    · rename_i h1
      by_cases h2 : k < 100
      · exfalso
        have : ∀ j, j < 100 → ¬ (xshL.getD j (99, 0)).1 = 52 := by decide +kernel
        exact this k h2 h
      · rw [List.getD_eq_getElem?_getD, List.getElem?_eq_none (by rw [xshL_len]; omega)] at h
        simp at h
    · split at h
      · simp at h
      · split at h
        · simp at h
        · split at h
          · simp at h
          · split at h
            · simp at h
            · split at h
              · simp at h
              · split at h
                · omega
                · simp at h
  refine ⟨k - 1020, by omega, by omega, ?_⟩
  rcases (show k = 1020 ∨ k = 1021 ∨ k = 1022 by omega) with rfl | rfl | rfl <;> rfl
theorem k_strv {k : Nat} (hk : (sh k).1 = 50) (ho : (xe y).2.2.2.2.1 = 13) (hd : decode (xe y).2.1 pc = .ok (.getfield 9, 3)) (h : VK G y Q (pc + 3) ls (.ref (k + 10) :: st) m) : VK G y Q pc ls (.ref k :: st) m := by
  intro p e s mid args below meth c H locs sl C hP hS hL
  obtain ⟨i, hi, rfl⟩ := sh50 hk
  have hown : s.vm.findClass "java/lang/String" = some mid.cls := by
    have := C.2.2.2.2.2.1
    rw [ho] at this
    exact this
  have h5 := (C.2.2.2.2.2.2.2.2.1.2.2.2.2 i hi).2.2.1
  rw [show 1010 + i = 1000 + i + 10 by omega] at h5
  exact vk_getf C.1 C.2.1 h5 hS hown (C.2.2.2.2.2.2.1 _ (xg_of xs5 rfl)) (fun _ h => h) hd (h p e s mid args below meth c H locs sl C hP hS hL)
theorem k_strc {k : Nat} (hk : (sh k).1 = 50) (ho : (xe y).2.2.2.2.1 = 13) (hd : decode (xe y).2.1 pc = .ok (.getfield 15, 3)) (h : VK G y Q (pc + 3) ls (.int 0 :: st) m) : VK G y Q pc ls (.ref k :: st) m := by
  intro p e s mid args below meth c H locs sl C hP hS hL
  obtain ⟨i, hi, rfl⟩ := sh50 hk
  have hown : s.vm.findClass "java/lang/String" = some mid.cls := by
    have := C.2.2.2.2.2.1
    rw [ho] at this
    exact this
  exact vk_getf C.1 C.2.1 (C.2.2.2.2.2.2.2.2.1.2.2.2.2 i hi).2.1 hS hown (C.2.2.2.2.2.2.1 _ (xg_of xs6 rfl)) (fun _ h => h) hd (h p e s mid args below meth c H locs sl C hP hS hL)
end ST
