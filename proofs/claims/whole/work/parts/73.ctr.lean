theorem dk_Rows_0 : decode prog_9_method_1_code 0 = .ok (.aload_n 0, 1) := by decide +kernel
theorem dk_Rows_1 : decode prog_9_method_1_code 1 = .ok (.invokespecial 1, 3) := by decide +kernel
theorem dk_Rows_4 : decode prog_9_method_1_code 4 = .ok (.aload_n 0, 1) := by decide +kernel
theorem dk_Rows_5 : decode prog_9_method_1_code 5 = .ok (.bipush 8, 2) := by decide +kernel
theorem dk_Rows_7 : decode prog_9_method_1_code 7 = .ok (.newarray .int, 2) := by decide +kernel
theorem dk_Rows_9 : decode prog_9_method_1_code 9 = .ok (.putfield 9, 3) := by decide +kernel
theorem dk_Rows_12 : decode prog_9_method_1_code 12 = .ok (.aload_n 0, 1) := by decide +kernel
theorem dk_Rows_13 : decode prog_9_method_1_code 13 = .ok (.bipush 8, 2) := by decide +kernel
theorem dk_Rows_15 : decode prog_9_method_1_code 15 = .ok (.newarray .int, 2) := by decide +kernel
theorem dk_Rows_17 : decode prog_9_method_1_code 17 = .ok (.putfield 13, 3) := by decide +kernel
theorem dk_Rows_20 : decode prog_9_method_1_code 20 = .ok (.aload_n 0, 1) := by decide +kernel
theorem dk_Rows_21 : decode prog_9_method_1_code 21 = .ok (.sipush 320, 3) := by decide +kernel
theorem dk_Rows_24 : decode prog_9_method_1_code 24 = .ok (.newarray .int, 2) := by decide +kernel
theorem dk_Rows_26 : decode prog_9_method_1_code 26 = .ok (.putfield 16, 3) := by decide +kernel
theorem dk_Rows_29 : decode prog_9_method_1_code 29 = .ok (.aload_n 0, 1) := by decide +kernel
theorem dk_Rows_30 : decode prog_9_method_1_code 30 = .ok (.getfield 13, 3) := by decide +kernel
theorem dk_Rows_33 : decode prog_9_method_1_code 33 = .ok (.iconst (-1), 1) := by decide +kernel
theorem dk_Rows_34 : decode prog_9_method_1_code 34 = .ok (.invokestatic 19, 3) := by decide +kernel
theorem dk_Rows_37 : decode prog_9_method_1_code 37 = .ok (.return_, 1) := by decide +kernel
theorem ko_Rows : Cond.methodLink "OverInDinghy$Rows" 1 Lib.objectInit ∈ xg_tbl := xg_of (List.mem_of_getElem? (i := 106) (by decide +kernel)) rfl
theorem kl_Rows_9 : Cond.fieldLink "OverInDinghy$Rows" 9 "OverInDinghy$Rows" "lane" "[I" ∈ xg_tbl := xg_of (List.mem_of_getElem? (i := 110) (by decide +kernel)) rfl
theorem kl_Rows_13 : Cond.fieldLink "OverInDinghy$Rows" 13 "OverInDinghy$Rows" "size" "[I" ∈ xg_tbl := xg_of (List.mem_of_getElem? (i := 112) (by decide +kernel)) rfl
theorem kl_Rows_16 : Cond.fieldLink "OverInDinghy$Rows" 16 "OverInDinghy$Rows" "items" "[I" ∈ xg_tbl := xg_of (List.mem_of_getElem? (i := 114) (by decide +kernel)) rfl
def wk_Rows (cI cB cZ : ClassId) (h : Nat) (u : { x : (Nat → Nat) × (Nat → Int32) // ∀ j, j < 8 → x.2 j = -1 }) : va_W := [(h, .inr (5, [.ref (u.1.1 1), .ref (u.1.1 2), .ref (u.1.1 3)])), (u.1.1 1, .inl (cI, 8, .inl (fun _ => 0))), (u.1.1 2, .inl (cI, 8, .inl u.1.2)), (u.1.1 3, .inl (cI, 320, .inl (fun _ => 0)))]
set_option maxRecDepth 30000 in
theorem kf_co : Cond.code ⟨"java/util/Arrays", "fill", "([II)V"⟩ prog_18_method_103_code 4 none ∈ xg_tbl := xg_of (List.mem_of_getElem? (i := 109) rfl) rfl
theorem kf_li : Cond.methodLink "OverInDinghy$Rows" 19 ⟨"java/util/Arrays", "fill", "([II)V"⟩ ∈ xg_tbl := xg_of (List.mem_of_getElem? (i := 107) (by decide +kernel)) rfl
theorem kf_st : Cond.static ⟨"java/util/Arrays", "fill", "([II)V"⟩ ∈ xg_tbl := xg_of (List.mem_of_getElem? (i := 108) (by decide +kernel)) rfl
theorem kf_in : Cond.initialized "java/util/Arrays" ∈ xg_tbl := xg_of (List.mem_of_getElem? (i := 77) (by decide +kernel)) rfl
set_option maxRecDepth 30000 in
theorem cc_Rows {D : va_G} {cI cB cZ : ClassId} {l : Launch} : CMet D [(cI, .int), (cB, .byte), (cZ, .boolean)] l ⟨"OverInDinghy$Rows", "<init>", "()V"⟩ prog_9_method_1_code { frames := 1, cells := 3, slots := 336, locals := 40 } (fun _ => True) 5 [.null, .null, .null] (wk_Rows cI cB cZ) := by
  refine k_ent (Wd := wk_Rows cI cB cZ) (by decide) dk_Rows_0 dk_Rows_1 ko_Rows ko_i ko_c (by decide) (by decide) (fun p e s m below meth c ls A h X hr hlk hA hls hl hZ hP hD => ?_)
  have hS : va_S A s.heap s.heap [] := va_S.rf
  refine k_arr (pc := 4) (pc2 := 7) (ci := 5) (k := 0) (N' := 8) (t0 := 0) (a0 := (8, .inl (fun _ => 0))) (n := 8) X hA hl hP hD hS rfl rfl (by decide) (Nat.le_of_ble_eq_true rfl) kl_Rows_9 rfl rfl rfl rfl ka_int rfl (fun _ h => by cases h) (fun _ => rfl) (by decide) (by decide) (by decide) (by decide) (by decide) dk_Rows_4 (fun st z => lv_bipush X.1 X.2.1 dk_Rows_5 (by decide) z) dk_Rows_7 dk_Rows_9 (fun q1 H1 locs1 hP hD hS => ?_)
  have hP : va_P D xcl [(h, .inr (5, [.ref q1, .null, .null])), (q1, .inl (cI, 8, .inl (fun _ => 0)))] H1 := hP
  have hD : va_D A [(h, .inr (5, [.ref q1, .null, .null])), (q1, .inl (cI, 8, .inl (fun _ => 0)))] := hD
  refine k_arr (pc := 12) (pc2 := 15) (ci := 5) (k := 1) (N' := 8) (t0 := 0) (a0 := (8, .inl (fun _ => 0))) (n := 8) X hA hl hP hD hS rfl rfl (by decide) (Nat.le_of_ble_eq_true rfl) kl_Rows_13 rfl rfl rfl rfl ka_int rfl (fun _ h => by cases h) (fun _ => rfl) (by decide) (by decide) (by decide) (by decide) (by decide) dk_Rows_12 (fun st z => lv_bipush X.1 X.2.1 dk_Rows_13 (by decide) z) dk_Rows_15 dk_Rows_17 (fun q2 H2 locs2 hP hD hS => ?_)
  have hP : va_P D xcl [(h, .inr (5, [.ref q1, .ref q2, .null])), (q1, .inl (cI, 8, .inl (fun _ => 0))), (q2, .inl (cI, 8, .inl (fun _ => 0)))] H2 := hP
  have hD : va_D A [(h, .inr (5, [.ref q1, .ref q2, .null])), (q1, .inl (cI, 8, .inl (fun _ => 0))), (q2, .inl (cI, 8, .inl (fun _ => 0)))] := hD
  refine k_arr (pc := 20) (pc2 := 24) (ci := 5) (k := 2) (N' := 320) (t0 := 0) (a0 := (320, .inl (fun _ => 0))) (n := 320) X hA hl hP hD hS rfl rfl (by decide) (Nat.le_of_ble_eq_true rfl) kl_Rows_16 rfl rfl rfl rfl ka_int rfl (fun _ h => by cases h) (fun _ => rfl) (by decide) (by decide) (by decide) (by decide) (by decide) dk_Rows_20 (fun st z => lv_sipush X.1 X.2.1 dk_Rows_21 (by decide) z) dk_Rows_24 dk_Rows_26 (fun q3 H3 locs3 hP hD hS => ?_)
  have hP : va_P D xcl [(h, .inr (5, [.ref q1, .ref q2, .ref q3])), (q1, .inl (cI, 8, .inl (fun _ => 0))), (q2, .inl (cI, 8, .inl (fun _ => 0))), (q3, .inl (cI, 320, .inl (fun _ => 0)))] H3 := hP
  have hD : va_D A [(h, .inr (5, [.ref q1, .ref q2, .ref q3])), (q1, .inl (cI, 8, .inl (fun _ => 0))), (q2, .inl (cI, 8, .inl (fun _ => 0))), (q3, .inl (cI, 320, .inl (fun _ => 0)))] := hD
  obtain ⟨hx, hb, hml, hown, hts, hK, hin⟩ := id X
  obtain ⟨k1, k2, k3⟩ := xcl_ok 5 _ rfl
  refine lv_aload_n hx hb dk_Rows_29 rfl hl ?_
  refine va_get (D := D) (ci := 5) (v := .ref q2) hx hb hts k1 hown hK hP 0 rfl rfl 1 (by decide) (hts _ kl_Rows_13) (fun _ h9 => h9) rfl dk_Rows_30 ?_
  refine lv_iconst (v := -1) hx hb dk_Rows_33 (by decide) ?_
  have hG : GoodIn xg_tbl (va_wsS "OverInDinghy$Rows" 19 ⟨"java/util/Arrays", "fill", "([II)V"⟩ (.code ⟨"java/util/Arrays", "fill", "([II)V"⟩ prog_18_method_103_code 4 none :: xg_tbl)) := good_app (fun w hw => by
    rcases List.mem_append.mp hw with h | h
    · simp only [List.mem_cons, List.not_mem_nil, or_false] at h
      rcases h with rfl | rfl | rfl
      · exact kf_li
      · exact kf_st
      · exact kf_in
    · rcases List.mem_cons.mp h with rfl | h
      · exact kf_co
      · exact h)
  have hPc : va_P D xcl [(q2, .inl (cI, 8, .inl (fun _ => 0)))] H3 := hP.sub [2] rfl
  have hFc := va_free (wc := [(q2, .inl (cI, 8, .inl (fun _ => 0)))]) hD hS hA [2] rfl
  refine va_callv (va_runS (As := [.ref q2, .int (-1)]) (rest := []) ⟨hx, hb, hml, hown, hts⟩ (cc_fill (D := D) (cI := cI) (cB := cB) (cZ := cZ) (l := l) q2 H3.size (-1) (fun _ => 0)) (va_cwS 2 hts hG rfl rfl rfl (by decide) ⟨by decide, by decide⟩) ⟨fun a U g mk z => by
      obtain ⟨z0, z1, zP, zK⟩ := z
      exact ⟨z0, z1, zP, va_K.moved (u := U) (U := U.calling g mk a) (Vm.Alike.refl U.vm) zK⟩, fun U hU hW => ⟨rfl, by rw [hU], by rw [hU]; exact hPc, va_K.moved hW.alike hK⟩⟩ rfl rfl hls rfl (lv_room (Nat.le_of_ble_eq_true rfl)) dk_Rows_34 ⟨by decide, by decide⟩) hS (fun q2 _ h => hFc q2 h) hFc (fun g t H4 locs4 hq hvm hw hB hz1 hk1 hS => ?_)
  obtain ⟨hB1, hB2⟩ := hB
  rw [hq] at hB1
  obtain ⟨hP, hD⟩ := va_join (wr := [(h, .inr (5, [.ref q1, .ref q2, .ref q3])), (q1, .inl (cI, 8, .inl (fun _ => 0))), (q3, .inl (cI, 320, .inl (fun _ => 0)))]) (w1 := [(q2, .inl (cI, 8, .inl g))]) hP hD [2] [0, 1, 3] rfl rfl (by decide) (by decide) hk1 hFc hB1 hB2
  have hP := hP.sub (ws' := [(h, .inr (5, [.ref q1, .ref q2, .ref q3])), (q1, .inl (cI, 8, .inl (fun _ => 0))), (q2, .inl (cI, 8, .inl g)), (q3, .inl (cI, 320, .inl (fun _ => 0)))]) [0, 1, 3, 2] rfl
  have hD := hD.sub (ws' := [(h, .inr (5, [.ref q1, .ref q2, .ref q3])), (q1, .inl (cI, 8, .inl (fun _ => 0))), (q2, .inl (cI, 8, .inl g)), (q3, .inl (cI, 320, .inl (fun _ => 0)))]) [0, 1, 3, 2] (by decide) rfl
  exact k_end (Wd := wk_Rows cI cB cZ) X hr hlk ⟨(fun i => [h, q1, q2, q3].getD i 0, g), hw⟩ hP hD hS dk_Rows_37

theorem dk_Search_0 : decode prog_10_method_1_code 0 = .ok (.aload_n 0, 1) := by decide +kernel
theorem dk_Search_1 : decode prog_10_method_1_code 1 = .ok (.invokespecial 3, 3) := by decide +kernel
theorem dk_Search_4 : decode prog_10_method_1_code 4 = .ok (.aload_n 0, 1) := by decide +kernel
theorem dk_Search_5 : decode prog_10_method_1_code 5 = .ok (.new 9, 3) := by decide +kernel
theorem dk_Search_8 : decode prog_10_method_1_code 8 = .ok (.dup, 1) := by decide +kernel
theorem dk_Search_9 : decode prog_10_method_1_code 9 = .ok (.invokespecial 11, 3) := by decide +kernel
theorem dk_Search_12 : decode prog_10_method_1_code 12 = .ok (.putfield 12, 3) := by decide +kernel
theorem dk_Search_15 : decode prog_10_method_1_code 15 = .ok (.aload_n 0, 1) := by decide +kernel
theorem dk_Search_16 : decode prog_10_method_1_code 16 = .ok (.new 18, 3) := by decide +kernel
theorem dk_Search_19 : decode prog_10_method_1_code 19 = .ok (.dup, 1) := by decide +kernel
theorem dk_Search_20 : decode prog_10_method_1_code 20 = .ok (.invokespecial 20, 3) := by decide +kernel
theorem dk_Search_23 : decode prog_10_method_1_code 23 = .ok (.putfield 21, 3) := by decide +kernel
theorem dk_Search_26 : decode prog_10_method_1_code 26 = .ok (.return_, 1) := by decide +kernel
theorem ko_Search : Cond.methodLink "OverInDinghy$Search" 3 Lib.objectInit ∈ xg_tbl := xg_of (List.mem_of_getElem? (i := 279) (by decide +kernel)) rfl
def zSearch (U : State) : Prop := va_Nw (.methodLinkNest "OverInDinghy$Search" 11 ⟨"OverInDinghy$Club", "<init>", "()V"⟩ "OverInDinghy") U ∧ va_Nw (.methodLinkNest "OverInDinghy$Search" 20 ⟨"OverInDinghy$Draws", "<init>", "()V"⟩ "OverInDinghy") U
def wk_Search (cI cB cZ : ClassId) (h : Nat) (u : (Nat × (Nat → Nat)) × Nat) : va_W := [(h, .inr (6, [.ref u.1.1, .ref u.2, .int 0, .int 0, .int 0, .int 0]))] ++ wk_Club cI cB cZ u.1.1 u.1.2 ++ wk_Draws cI cB cZ u.2 ()
theorem kl_Search_12 : Cond.fieldLink "OverInDinghy$Search" 12 "OverInDinghy$Search" "trial" "LOverInDinghy$Club;" ∈ xg_tbl := xg_of (List.mem_of_getElem? (i := 284) (by decide +kernel)) rfl
theorem ki_Club : Cond.instantiable "OverInDinghy$Club" 19 ∈ xg_tbl := xg_of (List.mem_of_getElem? (i := 162) (by decide +kernel)) rfl
theorem kn_Club : Cond.initialized "OverInDinghy$Club" ∈ xg_tbl := xg_of (List.mem_of_getElem? (i := 79) (by decide +kernel)) rfl
theorem km_Club : Cond.instanceMethod ⟨"OverInDinghy$Club", "<init>", "()V"⟩ ∈ xg_tbl := xg_of (List.mem_of_getElem? (i := 164) (by decide +kernel)) rfl
set_option maxRecDepth 30000 in
theorem kc_Club : Cond.code ⟨"OverInDinghy$Club", "<init>", "()V"⟩ prog_3_method_1_code 1 none ∈ xg_tbl := xg_of (List.mem_of_getElem? (i := 165) rfl) rfl
theorem kx_Search_9 : Cond.classLink "OverInDinghy$Search" 9 "OverInDinghy$Club" ∈ xg_tbl := xg_of (List.mem_of_getElem? (i := 280) (by decide +kernel)) rfl
theorem kl_Search_21 : Cond.fieldLink "OverInDinghy$Search" 21 "OverInDinghy$Search" "still" "LOverInDinghy$Draws;" ∈ xg_tbl := xg_of (List.mem_of_getElem? (i := 285) (by decide +kernel)) rfl
theorem ki_Draws : Cond.instantiable "OverInDinghy$Draws" 2 ∈ xg_tbl := xg_of (List.mem_of_getElem? (i := 261) (by decide +kernel)) rfl
theorem kn_Draws : Cond.initialized "OverInDinghy$Draws" ∈ xg_tbl := xg_of (List.mem_of_getElem? (i := 80) (by decide +kernel)) rfl
theorem km_Draws : Cond.instanceMethod ⟨"OverInDinghy$Draws", "<init>", "()V"⟩ ∈ xg_tbl := xg_of (List.mem_of_getElem? (i := 263) (by decide +kernel)) rfl
set_option maxRecDepth 30000 in
theorem kc_Draws : Cond.code ⟨"OverInDinghy$Draws", "<init>", "()V"⟩ prog_4_method_1_code 1 none ∈ xg_tbl := xg_of (List.mem_of_getElem? (i := 264) rfl) rfl
theorem kx_Search_18 : Cond.classLink "OverInDinghy$Search" 18 "OverInDinghy$Draws" ∈ xg_tbl := xg_of (List.mem_of_getElem? (i := 282) (by decide +kernel)) rfl
set_option maxRecDepth 30000 in
theorem cc_Search {D : va_G} {cI cB cZ : ClassId} {l : Launch} : CMet D [(cI, .int), (cB, .byte), (cZ, .boolean)] l ⟨"OverInDinghy$Search", "<init>", "()V"⟩ prog_10_method_1_code { frames := 2, cells := 15, slots := 129, locals := 80 } zSearch 6 [.null, .null, .int 0, .int 0, .int 0, .int 0] (wk_Search cI cB cZ) := by
  refine k_ent (Wd := wk_Search cI cB cZ) (by decide) dk_Search_0 dk_Search_1 ko_Search ko_i ko_c (by decide) (by decide) (fun p e s m below meth c ls A h X hr hlk hA hls hl hZ hP hD => ?_)
  have hS : va_S A s.heap s.heap [] := va_S.rf
  refine k_nst (pc := 4) (ci := 6) (k := 0) (ci2 := 1) X hA hls hl cc_Club hP hD hS rfl rfl rfl (by decide) (Nat.le_of_ble_eq_true rfl) kl_Search_12 rfl rfl rfl kx_Search_9 ki_Club kn_Club rfl kc_Club km_Club (by decide) (Or.inr ⟨_, hZ.1⟩) (fun _ _ _ _ z => z) (fun _ _ => trivial) (fun j hj => (by decide : ∀ j, j < 19 → defaultValue (xty 1 j) = vp_V [.int 0, .int 0, .int 0, .int 0, .int 0, .int 0, .null, .null, .null, .null, .null, .null, .null, .null, .null, .null, .null, .null, .null] j) j hj) (by decide) (by decide) (by decide) dk_Search_4 dk_Search_5 dk_Search_8 dk_Search_9 dk_Search_12 (fun c1 u1 H1 locs1 hP hD hS => ?_)
  have hP : va_P D xcl ([(h, .inr (6, [.ref c1, .null, .int 0, .int 0, .int 0, .int 0]))] ++ wk_Club cI cB cZ c1 u1) H1 := hP
  have hD : va_D A ([(h, .inr (6, [.ref c1, .null, .int 0, .int 0, .int 0, .int 0]))] ++ wk_Club cI cB cZ c1 u1) := hD
  refine k_nst (pc := 15) (ci := 6) (k := 1) (ci2 := 2) X hA hls hl cc_Draws hP hD hS rfl rfl rfl (by decide) (Nat.le_of_ble_eq_true rfl) kl_Search_21 rfl rfl rfl kx_Search_18 ki_Draws kn_Draws rfl kc_Draws km_Draws (by decide) (Or.inr ⟨_, hZ.2⟩) (fun _ _ _ _ z => z) (fun _ _ => trivial) (fun j hj => (by decide : ∀ j, j < 2 → defaultValue (xty 2 j) = vp_V [.int 0, .long 0] j) j hj) (by decide) (by decide) (by decide) dk_Search_15 dk_Search_16 dk_Search_19 dk_Search_20 dk_Search_23 (fun d1 u2 H2 locs2 hP hD hS => ?_)
  have hP : va_P D xcl ([(h, .inr (6, [.ref c1, .ref d1, .int 0, .int 0, .int 0, .int 0]))] ++ wk_Club cI cB cZ c1 u1 ++ wk_Draws cI cB cZ d1 ()) H2 := hP
  have hD : va_D A ([(h, .inr (6, [.ref c1, .ref d1, .int 0, .int 0, .int 0, .int 0]))] ++ wk_Club cI cB cZ c1 u1 ++ wk_Draws cI cB cZ d1 ()) := hD
  exact k_end (Wd := wk_Search cI cB cZ) X hr hlk ((c1, u1), d1) hP hD hS dk_Search_26

