theorem ki_OID : Cond.instantiable "OverInDinghy" 12 ∈ xg_tbl := xg_of (List.mem_of_getElem? (i := 94) (by decide +kernel)) rfl
theorem kn_OID : Cond.initialized "OverInDinghy" ∈ xg_tbl := xg_of (List.mem_of_getElem? (i := 75) (by decide +kernel)) rfl
theorem km_OID : Cond.instanceMethod ⟨"OverInDinghy", "<init>", "()V"⟩ ∈ xg_tbl := xg_of (List.mem_of_getElem? (i := 96) (by decide +kernel)) rfl
set_option maxRecDepth 30000 in
theorem kc_OID : Cond.code ⟨"OverInDinghy", "<init>", "()V"⟩ prog_1_method_1_code 1 none ∈ xg_tbl := xg_of (List.mem_of_getElem? (i := 97) rfl) rfl
theorem ky_OID : Cond.methodLink R_law 9 ⟨"OverInDinghy", "<init>", "()V"⟩ ∈ xg_tbl := xg_of (List.mem_of_getElem? (i := 95) (by decide +kernel)) rfl
theorem kx_OID : Cond.classLink R_law 7 "OverInDinghy" ∈ xg_tbl := xg_of (List.mem_of_getElem? (i := 93) (by decide +kernel)) rfl
theorem ki_Model : Cond.instantiable "OverInDinghyModel" 32 ∈ xg_tbl := xg_of (List.mem_of_getElem? (i := 936) (by decide +kernel)) rfl
theorem kn_Model : Cond.initialized "OverInDinghyModel" ∈ xg_tbl := xg_of (List.mem_of_getElem? (i := 84) (by decide +kernel)) rfl
theorem km_Model : Cond.instanceMethod ⟨"OverInDinghyModel", "<init>", "()V"⟩ ∈ xg_tbl := xg_of (List.mem_of_getElem? (i := 938) (by decide +kernel)) rfl
set_option maxRecDepth 30000 in
theorem kc_Model : Cond.code ⟨"OverInDinghyModel", "<init>", "()V"⟩ prog_12_method_1_code 1 none ∈ xg_tbl := xg_of (List.mem_of_getElem? (i := 939) rfl) rfl
theorem ky_Model : Cond.methodLink R_law 12 ⟨"OverInDinghyModel", "<init>", "()V"⟩ ∈ xg_tbl := xg_of (List.mem_of_getElem? (i := 937) (by decide +kernel)) rfl
theorem kx_Model : Cond.classLink R_law 10 "OverInDinghyModel" ∈ xg_tbl := xg_of (List.mem_of_getElem? (i := 935) (by decide +kernel)) rfl
theorem k_nc {D : va_G} {tys : List (ClassId × FieldType)} {p : Program} {l : Launch} {e : Env} {R : Room} {s : State} {m : MethodId} {args : Array Value} {below : List Frame} {meth : Method} {c : Code} {own : String} {cc : ByteArray} {A : Nat → Prop} {Q : State → Prop} {ls : Array Slot} {H : Heap} {locs : List Loc} {cells slots pc nL : Nat} {ws : va_W} (hx : p.tables.exec = Jvm.exec) (hb : c.code = cc) (hml : c.maxLocals = nL) (hown : s.vm.findClass own = some m.cls) (hts : ∀ w ∈ xg_tbl, w.before args s = true) (hK : va_K D xcl tys s) (hA : ∀ q, s.heap.size ≤ q → A q) (hls : ls.size = nL) {i1 i2 ci2 N2 : Nat} {fs2 : List Value} {C2 : String} {T2 : u_T} {bytes : ByteArray} {rm : Room} {Z : State → Prop} {S : Type} {Wd : Nat → S → va_W} (hM : CMet D tys l ⟨C2, "<init>", "()V"⟩ bytes rm Z ci2 fs2 Wd) (hP : va_P D xcl ws H) (hD : va_D A ws) (hS : va_S A s.heap H locs) (hc2 : xcl[ci2]? = some (C2, T2, N2)) (hcl : Cond.classLink own i1 C2 ∈ xg_tbl) (hinst : Cond.instantiable C2 N2 ∈ xg_tbl) (hini : Cond.initialized C2 ∈ xg_tbl) (hco : Cond.code ⟨C2, "<init>", "()V"⟩ bytes 1 none ∈ xg_tbl) (him : Cond.instanceMethod ⟨C2, "<init>", "()V"⟩ ∈ xg_tbl) (hyd : C2 ≠ "java/lang/invoke/MethodHandle" ∧ C2 ≠ "java/lang/invoke/VarHandle") (hlk : Cond.methodLink own i2 ⟨C2, "<init>", "()V"⟩ ∈ xg_tbl) (hZ1 : ∀ (a : Array Value) (U : State) (g : JFrame) (mk : MethodId), Z U → Z (U.calling g mk a)) (hZ2 : ∀ U : State, s.WarmedH U.vm → Z U) (hfs : ∀ j, j < N2 → defaultValue (xty ci2 j) = vp_V fs2 j) (hcells : cells + 1 + rm.cells ≤ R.cells) (hslots : slots + N2 + rm.slots ≤ R.slots) (hR : rm.frames + 1 ≤ R.frames ∧ 8 + (1 + 11) + rm.locals ≤ R.locals) (d2 : decode cc pc = .ok (.new i1, 3)) (d3 : decode cc (pc + 3) = .ok (.dup, 1)) (d4 : decode cc (pc + 4) = .ok (.invokespecial i2, 3)) (kk : ∀ (q : Nat) (u : S) (H1 : Heap) (locs1 : List Loc), va_P D xcl (ws ++ Wd q u) H1 → va_D A (ws ++ Wd q u) → va_S A s.heap H1 locs1 → W p l e R s m args below meth c H1 locs1 (cells + 1 + rm.cells) (slots + N2 + rm.slots) Q (F0 m (pc + 7) ls [.ref q])) : W p l e R s m args below meth c H locs cells slots Q (F0 m pc ls []) := by
  obtain ⟨j1, j2, j3⟩ := xcl_ok ci2 _ hc2
  refine va_new (D := D) (ci := ci2) (fs := fs2) (C := C2) (T := T2) (N := N2) hx hb hts j1 (xty ci2) j2 hown (hts _ hcl) (hts _ hinst) (hts _ hini) hK hP hD hS hA hc2 hfs (by omega) (by omega) d2 (fun q H1 hP1 hD1 hS1 => ?_)
  refine lv_dup hx hb d3 rfl ?_
  have hFc : ∀ q2, va_A [(q, .inr (ci2, fs2))] H1.size q2 → A q2 := va_free (wc := [(q, .inr (ci2, fs2))]) hD1 hS1 hA [ws.length] last_map
  have hG : GoodIn xg_tbl (.code ⟨C2, "<init>", "()V"⟩ bytes 1 none :: xg_tbl) := good_app (fun w hw => by
    rcases List.mem_cons.mp hw with rfl | h
    · exact hco
    · exact h)
  have hPS : PreS s H1 (va_Pc [.ref q] (CPre D tys Z ci2 fs2 q H1.size)) (.ref q :: []) := ⟨fun a U g mk z => by
      obtain ⟨z0, z1, zP, zK, zZ⟩ := z
      exact ⟨z0, z1, zP, va_K.moved (u := U) (U := U.calling g mk a) (Vm.Alike.refl U.vm) zK, hZ1 a U g mk zZ⟩, fun U hU hW => ⟨rfl, by rw [hU], by rw [hU]; exact P_last hP1, va_K.moved hW.alike hK, hZ2 U hW⟩⟩
  have hrun : va_Run p l e R s m args below meth c H1 locs (cells + 1) (slots + N2) rm.cells rm.slots (F0 m (pc + 3 + 1) ls [.ref q, .ref q]) [.ref q] (va_Qv (fun _ : S => True) (fun u t => va_P D xcl (Wd q u) t.heap ∧ va_D (va_A [(q, .inr (ci2, fs2))] H1.size) (Wd q u)) (va_A [(q, .inr (ci2, fs2))] H1.size) (Value.ref q :: []).toArray) (va_A [(q, .inr (ci2, fs2))] H1.size) :=
    va_runI (As := []) (rest := [.ref q]) ⟨hx, hb, hml, hown, hts⟩ (hM q H1.size) (cwI 0 hts hG rfl rfl rfl (hts _ hini) (hts _ hlk) (hts _ him) rfl ⟨hyd.1, hyd.2, (by decide : (parseMethodDescriptor "()V").map (fun d => d.parameters.length) = some 0)⟩ hR) hPS rfl rfl hls rfl (lv_room (Nat.le_of_ble_eq_true rfl)) d4 ⟨hcells, hslots⟩
  refine va_callv hrun hS1 (fun q2 _ h => hFc q2 h) hFc (fun u t H2 locs2 hq hvm hw hB hz1 hk1 hS2 => ?_)
  obtain ⟨hB1, hB2⟩ := hB
  rw [hq] at hB1
  obtain ⟨hP2, hD2⟩ := va_join (wr := ws) (w1 := Wd q u) hP1 hD1 [ws.length] (List.range ws.length) last_map range_map (nd_range _ List.nodup_range) (fun i hi => by rw [List.mem_range] at hi; simp; omega) hk1 hFc hB1 hB2
  exact kk q u H2 locs2 hP2 hD2 hS2
theorem arr_of {s : State} {args : Array Value} {ty : FieldType} (h : (Cond.arrayClass ty).before args s = true) (hob : ∀ C, ty ≠ .object C) : ∃ cA : ClassId, ArrOfT s cA ty ∧ va_RA s cA ty := by
  obtain ⟨cA, kA, comp, hfind, hk, hkind⟩ := Cond.arrayClass_spec h
  refine ⟨cA, fun n z => ⟨fun k h => ?_, kA, hk, comp, hkind⟩, ?_⟩
  · cases h
  · cases ty with
    | object C => exact absurd rfl (hob C)
    | _ => exact hfind

theorem kn_all {s : State} {args : Array Value} (hts : ∀ w ∈ xg_tbl, w.before args s = true) : ∃ D : va_G, ∀ (k : Nat) (q : vw_C), xcl[k]? = some q → u_Kn s q.1 q.2.1 q.2.2 (D.1 k) (D.2 k) := by
  have h0 : ∀ k : Nat, ∃ cd : ClassId × (Nat → Nat), ∀ q : vw_C, xcl[k]? = some q → u_Kn s q.1 q.2.1 q.2.2 cd.1 cd.2 := by
    intro k
    have one : ∀ (q : vw_C), xcl[k]? = some q → Cond.instantiable q.1 q.2.2 ∈ xg_tbl → ∃ cd : ClassId × (Nat → Nat), ∀ q : vw_C, xcl[k]? = some q → u_Kn s q.1 q.2.1 q.2.2 cd.1 cd.2 := by
      intro q hq hi
      obtain ⟨c, iS, h⟩ := u_known (C := q.1) (T := q.2.1) (N := q.2.2) (n := q.2.2) hts (xcl_ok k q hq).1 (hts _ hi)
      exact ⟨(c, iS), fun q' hq' => by rw [hq] at hq'; cases hq'; exact h⟩
    match k with
    | 0 => exact one _ rfl ki_Asks
    | 1 => exact one _ rfl ki_Club
    | 2 => exact one _ rfl ki_Draws
    | 3 => exact one _ rfl ki_Reader
    | 4 => exact one _ rfl ki_Rescue
    | 5 => exact one _ rfl ki_Rows
    | 6 => exact one _ rfl ki_Search
    | 7 => exact one _ rfl ki_OID
    | 8 => exact one _ rfl ki_Model
    | k + 9 => exact ⟨(0, fun _ => 0), fun q hq => by simp [xcl] at hq⟩
  obtain ⟨ad, had⟩ := Classical.axiomOfChoice h0
  exact ⟨(fun k => (ad k).1, fun k => (ad k).2), fun k q hq => had k q hq⟩

set_option maxRecDepth 100000 in
theorem whole_start {p : Program} {e : Env} {s : State} {m : MethodId} {below : List Frame} {meth : Method} {c : Code} (l : Launch) {b L : Nat} {xs : Nat → Int32} (hL : L ≤ 3072) (C0 : lw_At p s m meth c b L xs) : W p l e room_1 s m #[Value.ref b] below meth c s.heap [] 0 0 (lw_Z below #[Value.ref b] s) (entryFrame m ([Value.ref b] : List Value).toArray 4) := by
  obtain ⟨hx, hb, hr, hml, hown, hts0, hX, hbl, hlocks, hgv⟩ := id C0
  have hts : ∀ w ∈ xg_tbl, w.before #[Value.ref b] s = true := fun w hw => hts0 w (List.mem_filter.mp hw).1
  obtain ⟨D, hD0⟩ := kn_all hts
  obtain ⟨cI, hI⟩ := arr_of (hts _ ka_int) (fun _ h => by cases h)
  obtain ⟨cB, hB⟩ := arr_of (hts _ ka_byte) (fun _ h => by cases h)
  obtain ⟨cZ, hZ⟩ := arr_of (hts _ ka_boolean) (fun _ h => by cases h)
  have hK : va_K D xcl [(cI, .int), (cB, .byte), (cZ, .boolean)] s := by
    refine ⟨hD0, fun k q hq => ?_⟩
    match k, hq with
    | 0, hq => cases hq; exact hI
    | 1, hq => cases hq; exact hB
    | 2, hq => cases hq; exact hZ
    | k + 3, hq => simp at hq
  obtain ⟨ex, v, hv1, hex⟩ := ex_0 hts0 hgv
  have hA : ∀ q : Nat, s.heap.size ≤ q → (fun q : Nat => s.heap.size ≤ q) q := fun _ h => h
  have hS : va_S (fun q : Nat => s.heap.size ≤ q) s.heap s.heap [] := va_S.rf
  have hP : va_P D xcl [] s.heap := fun k q h => by simp at h
  have hD : va_D (fun q : Nat => s.heap.size ≤ q) [] := ⟨fun i j p q h => by simp at h, fun k q h => by simp at h⟩
  have hl := lv_entry ([.ref b]) (n := 4) (Nat.le_of_ble_eq_true rfl)
  rw [lg_entry_eq]
  generalize (lg_sl ([.ref b]) ++ List.replicate (4 - (lg_sl ([.ref b])).length) Slot.unset).toArray = ls at hl ⊢
  have hl : lv_has ls 4 [(0, .ref b)] := hl
  refine k_nc (pc := 0) (ci2 := 7) hx hb hml hown hts hK hA hl.1 cc_OID hP hD hS rfl kx_OID ki_OID kn_OID kc_OID km_OID (by decide) ky_OID (fun a U g mk z => ⟨va_Nw.same rfl rfl z.1, va_Nw.same rfl rfl z.2.1, va_Nw.same rfl rfl z.2.2.1, va_Nw.same rfl rfl z.2.2.2.1, va_Nw.same rfl rfl z.2.2.2.2.1, va_Nw.same rfl rfl z.2.2.2.2.2.1, va_Nw.same rfl rfl z.2.2.2.2.2.2.1, va_Nw.same rfl rfl z.2.2.2.2.2.2.2⟩) (fun U hW => ⟨va_Nw.warmM hW (va_Nw.of rfl (hts0 (.methodLinkNest "OverInDinghy" 18 ⟨"OverInDinghy$Reader", "<init>", "()V"⟩ "OverInDinghy") (List.mem_of_getElem? (i := 125) (by decide +kernel)))), va_Nw.warmM hW (va_Nw.of rfl (hts0 (.methodLinkNest "OverInDinghy" 25 ⟨"OverInDinghy$Club", "<init>", "()V"⟩ "OverInDinghy") (List.mem_of_getElem? (i := 163) (by decide +kernel)))), va_Nw.warmM hW (va_Nw.of rfl (hts0 (.methodLinkNest "OverInDinghy" 41 ⟨"OverInDinghy$Draws", "<init>", "()V"⟩ "OverInDinghy") (List.mem_of_getElem? (i := 262) (by decide +kernel)))), va_Nw.warmM hW (va_Nw.of rfl (hts0 (.methodLinkNest "OverInDinghy" 48 ⟨"OverInDinghy$Search", "<init>", "()V"⟩ "OverInDinghy") (List.mem_of_getElem? (i := 276) (by decide +kernel)))), va_Nw.warmM hW (va_Nw.of rfl (hts0 (.methodLinkNest "OverInDinghy" 55 ⟨"OverInDinghy$Rescue", "<init>", "()V"⟩ "OverInDinghy") (List.mem_of_getElem? (i := 306) (by decide +kernel)))), va_Nw.warmM hW (va_Nw.of rfl (hts0 (.methodLinkNest "OverInDinghy" 62 ⟨"OverInDinghy$Asks", "<init>", "()V"⟩ "OverInDinghy") (List.mem_of_getElem? (i := 323) (by decide +kernel)))), va_Nw.warmM hW (va_Nw.of rfl (hts0 (.methodLinkNest "OverInDinghy$Search" 11 ⟨"OverInDinghy$Club", "<init>", "()V"⟩ "OverInDinghy") (List.mem_of_getElem? (i := 281) (by decide +kernel)))), va_Nw.warmM hW (va_Nw.of rfl (hts0 (.methodLinkNest "OverInDinghy$Search" 20 ⟨"OverInDinghy$Draws", "<init>", "()V"⟩ "OverInDinghy") (List.mem_of_getElem? (i := 283) (by decide +kernel))))⟩) (fun j hj => (by decide : ∀ j, j < 12 → defaultValue (xty 7 j) = vp_V [.null, .null, .null, .null, .null, .null, .null, .null, .null, .null, .int 0, .int 0] j) j hj) (by decide) (by decide) (by decide) dl_0 dl_3 dl_4 (fun q u H1 locs1 hP hD hS => ?_)
  refine lv_astore_n (lv' := [(1, .ref q), (0, .ref b)]) hx hb dl_7 rfl hl (by decide) rfl (fun ls hl => ?_)
  refine k_nc (pc := 8) (ci2 := 8) hx hb hml hown hts hK hA hl.1 cc_Model hP hD hS rfl kx_Model ki_Model kn_Model kc_Model km_Model (by decide) ky_Model (fun _ _ _ _ z => z) (fun _ _ => trivial) (fun j hj => (by decide : ∀ j, j < 32 → defaultValue (xty 8 j) = vp_V [.int 0, .int 0, .null, .null, .null, .null, .null, .int 0, .null, .null, .int 0, .int 0, .int 0, .int 0, .int 0, .int 0, .int 0, .int 0, .int 0, .long 0, .null, .int 0, .int 0, .int 0, .int 0, .null, .null, .null, .null, .null, .null, .int 0] j) j hj) (by decide) (by decide) (by decide) dl_8 dl_11 dl_12 (fun q2 u2 H2 locs2 hP hD hS => ?_)
  refine lv_astore_n (lv' := [(2, .ref q2), (1, .ref q), (0, .ref b)]) hx hb dl_15 rfl hl (by decide) rfl (fun ls hl => ?_)
  refine lv_iconst (v := 0) hx hb dl_16 (by decide) ?_
  refine lv_istore_n (lv' := [(3, .int 0), (2, .ref q2), (1, .ref q), (0, .ref b)]) hx hb dl_17 rfl hl (by decide) rfl (fun ls hl => ?_)
  have ew := wl_0 l D cI cB cZ v q u q2 u2 ex
  have hWL := wk_len cI cB cZ q u q2 u2
  have hP : va_P D xcl (wk_OID cI cB cZ q u ++ wk_Model cI cB cZ q2 u2) H2 := hP
  have hD : va_D (fun q : Nat => s.heap.size ≤ q) (wk_OID cI cB cZ q u ++ wk_Model cI cB cZ q2 u2) := hD
  have hP := sel_P hWL hP
  have hD := sel_D hWL hD
  rw [← ew] at hP hD
  generalize hG : ((l, D, adr q u q2 u2 ex, cI, cB, cZ, v) : xG) = G at hP hD
  have g1 : G.1 = l := by rw [← hG]
  have g2 : G.2.1 = D := by rw [← hG]
  have hsz : ∀ k, k < 100 → s.heap.size ≤ G.2.2.1 k := fun k hk => hD.2 k _ (wl_at G (m0 u.1.2.1.2) hk)
  have hxA : ∀ q, xA G q → s.heap.size ≤ q := fun q ⟨k, k1, k2⟩ => by rw [k2]; exact hsz k k1
  have hinj : xInj G := ⟨fun i j hi hj he => hD.1 i j _ _ (wl_at G _ hi) (wl_at G _ hj) he, by rw [← hG]; exact hv1⟩
  have hE : xEx G s s.heap := hex G (by rw [← hG]) (fun k hk => by rw [← hG]; exact if_neg (by omega)) hxA
  have hKG : xKs G s := by rw [← hG]; exact hK
  have CX : LX G p s m meth c b L xs := ⟨C0, hKG, hE, hinj, hsz, hL⟩
  refine va_forget (fun x hx => hS.2.2 x hx) ?_
  have h0 : G.2.2.1 0 = q := by rw [← hG]; rfl
  have h86 : G.2.2.1 86 = q2 := by rw [← hG]; rfl
  subst g1
  rw [← g2] at hP
  exact law_loop CX L 0 (m0 u.1.2.1.2) H2 [] ls (by omega) (by omega) (REL_0 u.1.2.2) hP ⟨hS.1, fun x h1 h2 => hS.2.1 x h1 (fun z => by have z : s.heap.size ≤ x := z; omega), fun x hx => absurd hx (by simp)⟩ (by show lv_has ls 4 [(0, .ref b), (1, .ref (G.2.2.1 0)), (2, .ref (G.2.2.1 86)), (3, .int 0)]; rw [h0, h86]; exact lv_sub hl [3, 2, 1, 0] rfl)

