theorem xla_na : Cond.native arraycopyName ∈ lw_tbl := List.mem_of_getElem? (i := 420) (by decide +kernel)
theorem xla_st : Cond.static arraycopyName ∈ lw_tbl := List.mem_of_getElem? (i := 419) (by decide +kernel)
theorem xla_in : Cond.initialized "java/lang/System" ∈ lw_tbl := List.mem_of_getElem? (i := 85) (by decide +kernel)
theorem nfw : nativeFrameWords "java/lang/System" "arraycopy" 5 = 7 := by decide +kernel
theorem wt_sum {G : xG} : ∀ (st : List Value), ((st.map (cv G)).map fun v => v.category).sum ≤ wt st
  | [] => by simp [wt]
  | v :: l => by
    have ih := wt_sum (G := G) l
    have c2 : ∀ v : Value, v.category ≤ 2 := fun v => by rcases lv_cat v with h | h <;> omega
    have h2 := c2 (cv G v)
    rw [List.map_cons, List.map_cons, List.sum_cons]
    generalize ((l.map (cv G)).map fun v => v.category).sum = S at ih
    cases v with
    | int x =>
      have h3 : (cv G (.int x)).category = 1 := rfl
      have h4 : wt (.int x :: l) = 1 + wt l := rfl
      omega
    | ref x =>
      have h3 : (cv G (.ref x)).category = 1 := rfl
      have h4 : wt (.ref x :: l) = 1 + wt l := rfl
      omega
    | long x => have h4 : wt (.long x :: l) = 2 + wt l := rfl; omega
    | float x => have h4 : wt (.float x :: l) = 2 + wt l := rfl; omega
    | double x => have h4 : wt (.double x :: l) = 2 + wt l := rfl; omega
    | null => have h4 : wt (.null :: l) = 2 + wt l := rfl; omega
    | retAddr x => have h4 : wt (.retAddr x :: l) = 2 + wt l := rfl; omega
theorem lt4_sum {G : xG} {st : List Value} (h : lt4 st) : ((st.map (cv G)).map fun v => v.category).sum ≤ 8 := Nat.le_trans (wt_sum st) h
section SC
variable {G : xG} {y : Nat} {Q : xQt} {pc : Nat} {ls st : List Value} {m : xM}
theorem k_max {i q : Nat} {a b : Int32} (hl : ((xe y).2.2.2.2.1, i, q) ∈ xlx) (h4 : lt4 st) (hd : decode (xe y).2.1 pc = .ok (.invokestatic i, 3)) (h : VK G y Q (pc + 3) ls (.int (if a < b then b else a) :: st) m) : VK G y Q pc ls (.int b :: .int a :: st) m :=
  fun p e s mid args below meth c H locs sl C hP hS hL => va_mmax C.1 C.2.1 (by rw [C.2.2.1, hL.1]) C.2.2.2.2.2.1 (C_word C (xlx_ok _ hl) rfl) (C.2.2.2.2.2.2.1 _ (xg_of xlx_st rfl)) (C.2.2.2.2.2.2.1 _ (xg_of (List.mem_of_getElem? (i := 90) (by decide +kernel)) rfl)) (C.2.2.2.2.2.2.1 _ (xg_of xlx_co rfl)) (by show 1 ≤ ht y + 1; omega) (by have := lt4_sum (G := G) h4; show _ ≤ 64 * (ht y + 1); omega) (Nat.le_refl 0) (Nat.le_refl 0) hd (h p e s mid args below meth c H locs sl C hP hS hL)
theorem k_min {i q : Nat} {a b : Int32} (hl : ((xe y).2.2.2.2.1, i, q) ∈ xly) (h4 : lt4 st) (hd : decode (xe y).2.1 pc = .ok (.invokestatic i, 3)) (h : VK G y Q (pc + 3) ls (.int (if b < a then b else a) :: st) m) : VK G y Q pc ls (.int b :: .int a :: st) m :=
  fun p e s mid args below meth c H locs sl C hP hS hL => va_mmin C.1 C.2.1 (by rw [C.2.2.1, hL.1]) C.2.2.2.2.2.1 (C_word C (xly_ok _ hl) rfl) (C.2.2.2.2.2.2.1 _ (xg_of xly_st rfl)) (C.2.2.2.2.2.2.1 _ (xg_of (List.mem_of_getElem? (i := 90) (by decide +kernel)) rfl)) (C.2.2.2.2.2.2.1 _ (xg_of xly_co rfl)) (by show 1 ≤ ht y + 1; omega) (by have := lt4_sum (G := G) h4; show _ ≤ 64 * (ht y + 1); omega) (Nat.le_refl 0) (Nat.le_refl 0) hd (h p e s mid args below meth c H locs sl C hP hS hL)
theorem k_copy {i q a b : Nat} {sp dp n : Int32} (hl : ((xe y).2.2.2.2.1, i, q) ∈ xla) (h4 : lt4 st) (ha : (sh a).1 = 0) (hb : (sh b).1 = 0) (h1 : ¬ sp < 0) (h2 : ¬ dp < 0) (h3 : ¬ n < 0) (h5 : sp.toNatClampNeg + n.toNatClampNeg ≤ (sh a).2) (h6 : dp.toNatClampNeg + n.toNatClampNeg ≤ (sh b).2) (hd : decode (xe y).2.1 pc = .ok (.invokestatic i, 3)) (h : VK G y Q (pc + 3) ls st (xa m b (va_cpy (m.1 a) (m.1 b) sp.toNatClampNeg dp.toNatClampNeg n.toNatClampNeg))) : VK G y Q pc ls (.int n :: .int dp :: .ref b :: .int sp :: .ref a :: st) m :=
  fun p e s mid args below meth c H locs sl C hP hS hL => va_copyi C.1 C.2.1 (by rw [C.2.2.1, hL.1]) C.2.2.2.2.2.1 (C_word C (xla_ok _ hl) rfl) (C.2.2.2.2.2.2.1 _ (xg_of xla_na rfl)) (C.2.2.2.2.2.2.1 _ (xg_of xla_st rfl)) (C.2.2.2.2.2.2.1 _ (xg_of xla_in rfl)) C.2.2.2.2.2.2.2.1 hP (xD C.2.2.2.2.2.2.2.2.2 m) hS a b 0 0 (by rw [wl_at G m (sh_lt (by omega)), xcell_arr ha]) (by rw [wl_at G m (sh_lt (by omega)), xcell_arr hb]) rfl rfl rfl h1 h2 h3 h5 h6 (fun _ _ => rfl) (by show 1 ≤ ht y + 1; omega) (by have := lt4_sum (G := G) h4; rw [nfw]; show _ ≤ 64 * (ht y + 1); omega) hd (fun H1 locs1 hP1 _ hS1 => by
    rw [wl_up (sh_lt (by omega)) (by rw [xcell_arr hb, xa_at])] at hP1
    exact h p e s mid args below meth c H1 locs1 sl C hP1 hS1 hL)
theorem xpre_blind {as : List Value} : FrameBlind (va_Pc (as.map (cv G)) (xPre G m)) := fun a U g mk h => ⟨h.1, h.2.1, va_K.moved (u := U) (U := U.calling g mk a) (Vm.Alike.refl U.vm) h.2.2.1, (xEx.vm (U := U.calling g mk a) h.2.2.2 rfl)⟩
theorem good_app {ws : List Cond} (h : ∀ w ∈ ws, w ∈ xg_tbl) : GoodIn xg_tbl ws := fun w hw => ⟨h w hw, good_of_word (xg_good w (h w hw))⟩
theorem run_go {p : Program} {e : Env} {s : State} {mid : MethodId} {args : Array Value} {below : List Frame} {meth : Method} {c : Code} {H : Heap} {locs : List Loc} {sl : Array Slot} {st0 : List Value} {Q1 : xQt} {aa : Array Value} (C : Cx G y p s mid args meth c) (hS : va_S (xA G) s.heap H locs) (hL : lrp G ls sl (xe y).2.2.1) (hr : va_Run p G.1 e (rmd (ht y)) s mid args below meth c H locs 0 0 0 0 (F0 mid pc sl st0) (st.map (cv G)) (xPost G Q1 aa) (xA G)) (h : ∀ r m', Q1 r m' → VK G y Q (pc + 3) ls (r.toList ++ st) m') : W p G.1 e (rmd (ht y)) s mid args below meth c H locs 0 0 (MQ below (xPost G Q) args s 0 0 (xA G)) (F0 mid pc sl st0) := by
  intro T hT X
  obtain ⟨v, st₀, t, T', L, h0, X', hL2, e1, e2, ⟨⟨r, m', hv, hq, hp⟩, hz, hk⟩, stp⟩ := hr T hT X
  cases hv
  rw [h0] at hz hk
  have hS' : va_S (xA G) s.heap T'.heap (locs ++ L) := ⟨Nat.le_trans hS.1 (by rw [e1]; exact hz), fun q h1 h2 => by rw [e1, hk q (Nat.lt_of_lt_of_le h1 hS.1) h2]; exact hS.2.1 q h1 h2, fun q hq => by
      rcases List.mem_append.mp hq with h | h
      · exact hS.2.2 q h
      · exact hL2 q h⟩
  obtain ⟨t2, a1, b1⟩ := h r m' hq p e s mid args below meth c T'.heap (locs ++ L) sl C (by rw [e1]; exact hp) hS' hL T' rfl X'
  refine ⟨t2, stp t2 ?_, b1⟩
  have e9 : (r.map (cv G)).toList ++ st.map (cv G) = (r.toList ++ st).map (cv G) := by cases r <;> simp
  show Steps p.tables e below (T'.setTop (F0 mid (pc + 3) sl ((r.map (cv G)).toList ++ st.map (cv G)))) t2
  rw [e9]
  exact a1
theorem xe_kind {k : Nat} (hk : ¬ (xe k).2.2.2.2.2.2.2 = 2) : Cond.code (xe k).1 (xe k).2.1 (xe k).2.2.1 (xe k).2.2.2.1 ∈ lw_tbl ∧ (Cond.initialized (xe k).1.cls ∈ lw_tbl ∧ plainName (xe k).1.cls = true ∧ cn (xe k).2.2.2.2.1 = (xe k).1.cls ∧ (xe k).2.2.1 ≤ 40) ∧ ((xe k).1.cls ≠ "java/lang/invoke/MethodHandle" ∧ (xe k).1.cls ≠ "java/lang/invoke/VarHandle" ∧ (parseMethodDescriptor (xe k).1.desc).map (fun d => d.parameters.length) = some (xe k).2.2.2.2.2.2.1) ∧ (((xe k).2.2.2.2.2.2.2 = 0 ∧ Cond.static (xe k).1 ∈ lw_tbl) ∨ ((xe k).2.2.2.2.2.2.2 = 1 ∧ Cond.instanceMethod (xe k).1 ∈ lw_tbl ∧ Cond.selects (xe k).1.cls (xe k).1 (xe k).1 ∈ lw_tbl)) := by
  rcases xe_ok k with h | h
  · exact absurd h hk
  · exact h
theorem k_calls {i q4 k : Nat} {as : List Value} {Q1 : xQt} (hl : lw_tbl[q4]? = some (Cond.methodLink (cn (xe y).2.2.2.2.1) i (xe k).1)) (hk0 : (xe k).2.2.2.2.2.2.2 = 0) (hn : as.length = (xe k).2.2.2.2.2.2.1) (hht : ht k < ht y) (h4 : lt4 st) (hd : decode (xe y).2.1 pc = .ok (.invokestatic i, 3)) (hT : Tri G k as m Q1) (h : ∀ r m', Q1 r m' → VK G y Q (pc + 3) ls (r.toList ++ st) m') : VK G y Q pc ls (as.reverse ++ st) m := by
  intro p e s mid args below meth c H locs sl C hP hS hL
  obtain ⟨w1, ⟨w2, w3, w4, w5⟩, w6, w7⟩ := xe_kind (k := k) (by omega)
  have hst : Cond.static (xe k).1 ∈ lw_tbl := by
    rcases w7 with h | h
    · exact h.2
    · omega
  have hG : GoodIn xg_tbl (va_wsS (cn (xe y).2.2.2.2.1) i (xe k).1 (yw k)) := by
    refine good_app fun w hw => ?_
    rcases List.mem_append.mp hw with h | h
    · simp only [List.mem_cons, List.not_mem_nil, or_false] at h
      rcases h with rfl | rfl | rfl
      · exact xg_of (List.mem_of_getElem? hl) rfl
      · exact xg_of hst rfl
      · exact xg_of w2 rfl
    · rcases List.mem_cons.mp h with rfl | h
      · exact xg_of w1 rfl
      · exact h
  refine run_go (Q1 := Q1) (aa := (as.map (cv G)).toArray) C hS hL ?_ h
  exact va_runS (As := as.map (cv G)) ⟨C.1, C.2.1, C.2.2.1, C.2.2.2.2.2.1, C.2.2.2.2.2.2.1⟩ (hT C.2.2.2.2.2.2.2.2.2) (va_cwS (xe k).2.2.2.2.2.2.1 C.2.2.2.2.2.2.1 hG rfl rfl rfl w6 ⟨by show ht k + 1 + 1 ≤ ht y + 1; omega, by show 8 + ((xe k).2.2.1 + 11) + 64 * (ht k + 1) ≤ 64 * (ht y + 1); omega⟩) ⟨xpre_blind, fun U hU hW => ⟨rfl, by rw [hU]; exact hP, va_K.moved hW.alike C.2.2.2.2.2.2.2.1, xEx.go C.2.2.2.2.2.2.2.2.1 hW (by rw [hU]; exact hS.2.1)⟩⟩ rfl (by rw [List.length_map]; exact hn) hL.1 (by show (as.reverse ++ st).map (cv G) = _; rw [List.map_append, List.map_reverse]) (lv_room (lt4_sum h4)) hd ⟨Nat.le_refl 0, Nat.le_refl 0⟩
theorem k_callv {i q4 k o : Nat} {as : List Value} {Q1 : xQt} (hl : lw_tbl[q4]? = some (Cond.methodLink (cn (xe y).2.2.2.2.1) i (xe k).1)) (hk0 : (xe k).2.2.2.2.2.2.2 = 1) (hcl : ((sh o).1 = 50 ∧ (xe k).1.cls = "java/lang/String") ∨ ∃ (t : Nat) (q : vw_C), (sh o).1 = t + 3 ∧ xcl[t]? = some q ∧ q.1 = (xe k).1.cls) (hn : as.length = (xe k).2.2.2.2.2.2.1) (hht : ht k < ht y) (h4 : lt4 st) (hd : decode (xe y).2.1 pc = .ok (.invokevirtual i, 3)) (hT : Tri G k (.ref o :: as) m Q1) (h : ∀ r m', Q1 r m' → VK G y Q (pc + 3) ls (r.toList ++ st) m') : VK G y Q pc ls (as.reverse ++ .ref o :: st) m := by
  intro p e s mid args below meth c H locs sl C hP hS hL
  obtain ⟨w1, ⟨w2, w3, w4, w5⟩, w6, w7⟩ := xe_kind (k := k) (by omega)
  obtain ⟨hin, hse⟩ : Cond.instanceMethod (xe k).1 ∈ lw_tbl ∧ Cond.selects (xe k).1.cls (xe k).1 (xe k).1 ∈ lw_tbl := by
    rcases w7 with h | h
    · omega
    · exact h.2
  have hG : GoodIn xg_tbl (wsV (cn (xe y).2.2.2.2.1) i (xe k).1.cls (xe k).1 (yw k)) := by
    refine good_app fun w hw => ?_
    rcases List.mem_append.mp hw with h | h
    · simp only [List.mem_cons, List.not_mem_nil, or_false] at h
      rcases h with rfl | rfl | rfl | rfl
      · exact xg_of (List.mem_of_getElem? hl) rfl
      · exact xg_of hin rfl
      · exact xg_of hse rfl
      · exact xg_of w2 rfl
    · rcases List.mem_cons.mp h with rfl | h
      · exact xg_of w1 rfl
      · exact h
  have hrecv : ∃ cellB : Cell, H[G.2.2.1 o]? = some cellB ∧ cellB.vm.isStatics = false ∧ s.vm.findClass (xe k).1.cls = some cellB.cls := by
    rcases hcl with ⟨h1, h2⟩ | ⟨t, q, h1, h2, h3⟩
    · obtain ⟨j, hj, rfl⟩ := sh50 h1
      obtain ⟨cell, g1, g2, g3, -⟩ := ((C.2.2.2.2.2.2.2.2.1.2.2.2.2 j hj).1).kept hS.2.1
      exact ⟨cell, g1, g2, by rw [h2]; exact g3⟩
    · have ht9 : t < 9 := by
        have := (List.getElem?_eq_some_iff.mp h2).1
        simpa [xcl] using this
      have hr := va_recv C.2.2.2.2.2.2.2.1 hP h2 (q0 := o) (a := G.2.2.1 o) (by rw [wl_at G m (sh_lt (by omega)), xcell_obj h1])
      rw [h3] at hr
      exact hr
  refine run_go (Q1 := Q1) (aa := (Value.ref (G.2.2.1 o) :: as.map (cv G)).toArray) C hS hL ?_ h
  exact va_runV (C := (xe k).1.cls) (b := G.2.2.1 o) (As := as.map (cv G)) ⟨C.1, C.2.1, C.2.2.1, C.2.2.2.2.2.1, C.2.2.2.2.2.2.1⟩ (hT C.2.2.2.2.2.2.2.2.2) (cwV (xe k).2.2.2.2.2.2.1 C.2.2.2.2.2.2.1 hG rfl rfl rfl ⟨rfl, w6⟩ ⟨by show ht k + 1 + 1 ≤ ht y + 1; omega, by show 8 + ((xe k).2.2.1 + 11) + 64 * (ht k + 1) ≤ 64 * (ht y + 1); omega⟩) ⟨xpre_blind (as := .ref o :: as), hrecv, fun U hU hW => ⟨rfl, by rw [hU]; exact hP, va_K.moved hW.alike C.2.2.2.2.2.2.2.1, xEx.go C.2.2.2.2.2.2.2.2.1 hW (by rw [hU]; exact hS.2.1)⟩⟩ rfl (by rw [List.length_map]; exact hn) hL.1 (by show (as.reverse ++ .ref o :: st).map (cv G) = _; rw [List.map_append, List.map_reverse]; rfl) (lv_room (lt4_sum h4)) hd ⟨Nat.le_refl 0, Nat.le_refl 0⟩
theorem k_iret {v : Int32} (hr : nrw (xe y).2.2.2.1 v) (hd : decode (xe y).2.1 pc = .ok (.ireturn, 1)) (h : Q (some (.int v)) m) : VK G y Q pc ls [.int v] m := by
  intro p e s mid args below meth c H locs sl C hP hS hL
  have hlk := C.2.2.2.2.1
  have key : ∃ ty, (xe y).2.2.2.1 = some ty ∧ narrow ty (.int v) = .int v := by
    unfold nrw at hr
    split at hr
    · exact ⟨_, by assumption, rfl⟩
    · refine ⟨_, by assumption, ?_⟩
      show Value.int (v &&& 1) = _
      rw [hr]
    · refine ⟨_, by assumption, ?_⟩
      show Value.int v.toInt8.toInt32 = _
      rw [hr]
    · refine ⟨_, by assumption, ?_⟩
      show Value.int (v.toUInt32.toUInt16.toUInt32.toInt32) = _
      rw [← lg_i2c_nf, hr]
    · exact hr.elim
  obtain ⟨ty, e1, e2⟩ := key
  exact W.zret (v := v) C.1 C.2.1 (C.2.2.2.1.trans e1) e2 (fun t ht hW => ⟨⟨some (.int v), m, rfl, h, by rw [ht]; exact hP⟩, hS.F ht⟩) hS.2.2 hd hlk
theorem k_lret {v : Int64} (hr : (xe y).2.2.2.1 = some .long) (hd : decode (xe y).2.1 pc = .ok (.lreturn, 1)) (h : Q (some (.long v)) m) : VK G y Q pc ls [.long v] m := by
  intro p e s mid args below meth c H locs sl C hP hS hL
  have hlk := C.2.2.2.2.1
  exact W.lret (v := v) C.1 C.2.1 (C.2.2.2.1.trans hr) (fun t ht hW => ⟨⟨some (.long v), m, rfl, h, by rw [ht]; exact hP⟩, hS.F ht⟩) hS.2.2 hd hlk
theorem k_vret (hr : (xe y).2.2.2.1 = none) (hd : decode (xe y).2.1 pc = .ok (.return_, 1)) (h : Q none m) : VK G y Q pc ls [] m := by
  intro p e s mid args below meth c H locs sl C hP hS hL
  have hlk := C.2.2.2.2.1
  exact W.vret C.1 C.2.1 (C.2.2.2.1.trans hr) (fun t ht hW => ⟨⟨none, m, rfl, h, by rw [ht]; exact hP⟩, hS.F ht⟩) hS.2.2 hd hlk
theorem k_aret {v : Nat} {cl : String} (hr : (xe y).2.2.2.1 = some (.object cl)) (hd : decode (xe y).2.1 pc = .ok (.areturn, 1)) (h : Q (some (.ref v)) m) : VK G y Q pc ls [.ref v] m := by
  intro p e s mid args below meth c H locs sl C hP hS hL
  have hlk := C.2.2.2.2.1
  exact W.aret (v := .ref (G.2.2.1 v)) C.1 C.2.1 (C.2.2.2.1.trans hr) (Or.inl ⟨_, rfl⟩) (Or.inr ⟨_, rfl⟩) (fun t ht hW => ⟨⟨some (.ref v), m, rfl, h, by rw [ht]; exact hP⟩, hS.F ht⟩) hS.2.2 hd hlk
end SC
