theorem dk_fill_0 : decode prog_18_method_103_code 0 = .ok (.iconst 0, 1) := by decide +kernel
theorem dk_fill_1 : decode prog_18_method_103_code 1 = .ok (.istore_n 2, 1) := by decide +kernel
theorem dk_fill_2 : decode prog_18_method_103_code 2 = .ok (.aload_n 0, 1) := by decide +kernel
theorem dk_fill_3 : decode prog_18_method_103_code 3 = .ok (.arraylength, 1) := by decide +kernel
theorem dk_fill_4 : decode prog_18_method_103_code 4 = .ok (.istore_n 3, 1) := by decide +kernel
theorem dk_fill_5 : decode prog_18_method_103_code 5 = .ok (.iload_n 2, 1) := by decide +kernel
theorem dk_fill_6 : decode prog_18_method_103_code 6 = .ok (.iload_n 3, 1) := by decide +kernel
theorem dk_fill_7 : decode prog_18_method_103_code 7 = .ok (.if_icmp .ge 13, 3) := by decide +kernel
theorem dk_fill_10 : decode prog_18_method_103_code 10 = .ok (.aload_n 0, 1) := by decide +kernel
theorem dk_fill_11 : decode prog_18_method_103_code 11 = .ok (.iload_n 2, 1) := by decide +kernel
theorem dk_fill_12 : decode prog_18_method_103_code 12 = .ok (.iload_n 1, 1) := by decide +kernel
theorem dk_fill_13 : decode prog_18_method_103_code 13 = .ok (.iastore, 1) := by decide +kernel
theorem dk_fill_14 : decode prog_18_method_103_code 14 = .ok (.iinc 2 1, 3) := by decide +kernel
theorem dk_fill_17 : decode prog_18_method_103_code 17 = .ok (.goto (-12), 3) := by decide +kernel
theorem dk_fill_20 : decode prog_18_method_103_code 20 = .ok (.return_, 1) := by decide +kernel
theorem cc_fill {D : va_G} {cI cB cZ : ClassId} {l : Launch} (q sz : Nat) (v : Int32) (f : Nat → Int32) : Met l ⟨"java/util/Arrays", "fill", "([II)V"⟩ (.code ⟨"java/util/Arrays", "fill", "([II)V"⟩ prog_18_method_103_code 4 none :: xg_tbl) { frames := 0, cells := 0, slots := 0, locals := 0 } (va_Pc [.ref q, .int v] (fun U => U.heap.size = sz ∧ va_P D xcl [(q, .inl (cI, 8, .inl f))] U.heap ∧ va_K D xcl [(cI, .int), (cB, .byte), (cZ, .boolean)] U)) (va_Qv (fun g : Nat → Int32 => ∀ j, j < 8 → g j = v) (fun g t => va_P D xcl [(q, .inl (cI, 8, .inl g))] t.heap ∧ va_D (va_A [(q, .inl (cI, 8, .inl f))] sz) [(q, .inl (cI, 8, .inl g))]) (va_A [(q, .inl (cI, 8, .inl f))] sz)) 0 0 (va_A [(q, .inl (cI, 8, .inl f))] sz) := by
  refine Met.ofW (cc := prog_18_method_103_code) (maxL := 4) (ret := none) (by decide) rfl ?_
  intro p e s m args below meth c s₁ B hml hv
  obtain ⟨rfl, hsz, hP, hK⟩ := hv
  subst hsz
  have hx := B.exec
  have hb := B.bytes
  have hr := B.returns
  have hlocks := B.notSynchronized
  have hD : va_D (va_A [(q, .inl (cI, 8, .inl f))] s.heap.size) [(q, .inl (cI, 8, .inl f))] := (D_last (A := fun _ => True) (ws := []) ⟨fun i j p q hi hj _ => by
    have h1 : i < 1 := (List.getElem?_eq_some_iff.mp hi).1
    have h2 : j < 1 := (List.getElem?_eq_some_iff.mp hj).1
    omega, fun _ _ _ => trivial⟩).self
  generalize hAe : va_A [(q, .inl (cI, 8, .inl f))] s.heap.size = A at hD ⊢
  have hS : va_S A s.heap s.heap [] := va_S.rf
  have hl := lv_entry ([.ref q, .int v]) (n := 4) (Nat.le_of_ble_eq_true rfl)
  rw [lg_entry_eq]
  generalize (lg_sl ([.ref q, .int v]) ++ List.replicate (4 - (lg_sl ([.ref q, .int v])).length) Slot.unset).toArray = ls at hl ⊢
  have hl : lv_has ls 4 [(0, .ref q), (1, .int v)] := hl
  refine lv_iconst (v := 0) hx hb dk_fill_0 (by decide) ?_
  refine lv_istore_n (lv' := [(2, .int 0), (0, .ref q), (1, .int v)]) hx hb dk_fill_1 rfl hl (by decide) rfl (fun ls hl => ?_)
  refine lv_aload_n hx hb dk_fill_2 rfl (lv_at hl 1 rfl) ?_
  refine va_alen (v := 8) hx hb hK hP 0 0 rfl rfl rfl dk_fill_3 ?_
  refine lv_istore_n (lv' := [(3, .int 8), (2, .int 0), (0, .ref q), (1, .int v)]) hx hb dk_fill_4 rfl hl (by decide) rfl (fun ls hl => ?_)
  have key : ∀ (d i : Nat), i + d = 8 → ∀ (H : Heap) (locs : List Loc) (g : Nat → Int32) (ls : Array Slot), (∀ j, j < i → g j = v) → va_P D xcl [(q, .inl (cI, 8, .inl g))] H → va_D A [(q, .inl (cI, 8, .inl g))] → va_S A s.heap H locs → lv_has ls 4 [(2, .int (nI i)), (3, .int 8), (0, .ref q), (1, .int v)] → W p l e { frames := 0, cells := 0, slots := 0, locals := 0 } s m [Value.ref q, Value.int v].toArray below meth c H locs 0 0 (MQ below (va_Qv (fun g : Nat → Int32 => ∀ j, j < 8 → g j = v) (fun g t => va_P D xcl [(q, .inl (cI, 8, .inl g))] t.heap ∧ va_D A [(q, .inl (cI, 8, .inl g))]) A) [Value.ref q, Value.int v].toArray s 0 0 A) (F0 m 5 ls []) := by
    intro d
    induction d with
    | zero =>
      intro i hi H locs g ls hg hP hD hS hlv
      have hl := hlv
      refine lv_iload_n hx hb dk_fill_5 rfl (lv_at hl 0 rfl) ?_
      refine lv_iload_n hx hb dk_fill_6 rfl (lv_at hl 1 rfl) ?_
      refine lv_icmp_ge (tgt := 20) hx hb dk_fill_7 rfl (fun _ => ?_) (fun z => absurd (nI_le (a := 8) (b := i) (by omega) (by omega)) z)
      exact W.vret hx hb hr (fun t ht hW => ⟨⟨g, rfl, fun j hj => hg j (by omega), by rw [ht]; exact hP, hD⟩, hS.F ht⟩) hS.2.2 dk_fill_20
    | succ d ih =>
      intro i hi H locs g ls hg hP hD hS hlv
      have hl := hlv
      refine lv_iload_n hx hb dk_fill_5 rfl (lv_at hl 0 rfl) ?_
      refine lv_iload_n hx hb dk_fill_6 rfl (lv_at hl 1 rfl) ?_
      refine lv_icmp_ge (tgt := 20) hx hb dk_fill_7 rfl (fun z => absurd z (nI_ge (b := 8) (by omega) (by omega))) (fun _ => ?_)
      refine lv_aload_n hx hb dk_fill_10 rfl (lv_at hl 2 rfl) ?_
      refine lv_iload_n hx hb dk_fill_11 rfl (lv_at hl 0 rfl) ?_
      refine lv_iload_n hx hb dk_fill_12 rfl (lv_at hl 3 rfl) ?_
      refine va_iast hx hb hK hP hD hS 0 0 rfl rfl (xin_nI (i := i) (n := 8) (by omega) (by omega)) dk_fill_13 (fun H1 locs1 hP1 hD1 hS1 => ?_)
      refine lv_iinc (k := 0) (lv' := [(2, .int (nI (i + 1))), (3, .int 8), (0, .ref q), (1, .int v)]) hx hb dk_fill_14 hl rfl (show nI i + Int32.ofInt 1 = nI (i + 1) from nI_1 i) (by decide) rfl (fun ls' h' => ?_)
      refine lv_goto (tgt := 5) hx hb dk_fill_17 rfl ?_
      refine ih (i + 1) (by omega) H1 locs1 (upd g i v) ls' (fun j hj => ?_) ?_ ?_ hS1 ?_
      · by_cases ej : j = i
        · rw [upd_eq ej]
        · rw [upd_ne ej]; exact hg j (by omega)
      · rw [show (nI i).toNatClampNeg = i from nI_clamp (by omega)] at hP1; exact hP1
      · rw [show (nI i).toNatClampNeg = i from nI_clamp (by omega)] at hD1; exact hD1
      · exact h'
  exact key 8 0 rfl s.heap [] f ls (fun j hj => absurd hj (by omega)) hP hD hS (lv_sub hl [1, 0, 2, 3] rfl)

