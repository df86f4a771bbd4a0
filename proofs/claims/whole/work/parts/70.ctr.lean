/-! ===== CONSTRUCTORS: generic steps ===== -/
theorem nd_range : ∀ (l : List Nat), l.Nodup → va_nd l = true
  | [], _ => rfl
  | a :: l, h => by
    have h2 := List.nodup_cons.mp h
    show (decide (a ∉ l) && va_nd l) = true
    rw [nd_range l h2.2, decide_eq_true h2.1]
    rfl
theorem range_map {ws : va_W} {x : Nat × va_E} : (List.range ws.length).map (fun i => (ws ++ [x])[i]?) = ws.map some := by
  apply List.ext_getElem?
  intro i
  rw [List.getElem?_map, List.getElem?_map]
  by_cases h : i < ws.length
  · rw [List.getElem?_range h]
    simp only [Option.map_some]
    rw [List.getElem?_append_left h, List.getElem?_eq_getElem h]
    rfl
  · rw [List.getElem?_eq_none (by simp; omega), List.getElem?_eq_none (by omega)]
    rfl
theorem last_map {ws : va_W} {x : Nat × va_E} : [ws.length].map (fun i => (ws ++ [x])[i]?) = [x].map some := by simp
theorem P_last {D : va_G} {cl : List vw_C} {ws : va_W} {x : Nat × va_E} {H : Heap} (h : va_P D cl (ws ++ [x]) H) : va_P D cl [x] H := by
  intro k q hk
  have hz : k < 1 := (List.getElem?_eq_some_iff.mp hk).1
  rw [show k = 0 by omega] at hk
  exact h ws.length q (by simpa using hk)
theorem D_last {A : Nat → Prop} {ws : va_W} {x : Nat × va_E} : va_D A (ws ++ [x]) → va_D (fun _ => True) [x] := by
  intro h
  refine ⟨fun i j p q hi hj _ => ?_, fun _ _ _ => trivial⟩
  have h1 : i < 1 := (List.getElem?_eq_some_iff.mp hi).1
  have h2 : j < 1 := (List.getElem?_eq_some_iff.mp hj).1
  omega
def KX (D : va_G) (tys : List (ClassId × FieldType)) (p : Program) (s : State) (m : MethodId) (args : Array Value) (meth : Method) (c : Code) (own : String) (cc : ByteArray) : Prop := p.tables.exec = Jvm.exec ∧ c.code = cc ∧ c.maxLocals = 1 ∧ s.vm.findClass own = some m.cls ∧ (∀ w ∈ xg_tbl, w.before args s = true) ∧ va_K D xcl tys s ∧ meth.name = "<init>"
section CTR
variable {D : va_G} {tys : List (ClassId × FieldType)} {p : Program} {l : Launch} {e : Env} {R : Room} {s : State} {m : MethodId} {args : Array Value} {below : List Frame} {meth : Method} {c : Code} {own : String} {cc : ByteArray} {A : Nat → Prop} {Q : State → Prop} {ls : Array Slot} {h0 : Nat} {H : Heap} {locs : List Loc} {cells slots pc : Nat} {ws : va_W}
theorem k_arr (X : KX D tys p s m args meth c own cc) (hA : ∀ q, s.heap.size ≤ q → A q) (hl : ls[0]? = some (.val (.ref h0))) {pc2 ci k N N' idx t0 : Nat} {fs : List Value} {C : String} {T : u_T} {cA : ClassId} {ty : FieldType} {atype : ArrayType} {n : Int32} {a0 : vp_A} (hP : va_P D xcl ws H) (hD : va_D A ws) (hS : va_S A s.heap H locs) (he : ws[0]? = some (h0, .inr (ci, fs))) (hc : xcl[ci]? = some (C, T, N)) (hk : k < N) (hkl : k < fs.length) (hlink : Cond.fieldLink own idx (T k).1 (T k).2.1 (T k).2.2.1 ∈ xg_tbl) (hfin : (T k).2.2.2 = true) (hdecl : (T k).1 = own) (hd : parseFieldDescriptor (T k).2.2.1 = some (.array ty)) (hat : newarray.typeOf atype = ty) (harr : Cond.arrayClass ty ∈ xg_tbl) (ht : tys[t0]? = some (cA, ty)) (hob : ∀ C, ty ≠ .object C) (ha : ∀ cA : ClassId, vp_cell cA a0 = arrV cA N' (fun _ => defaultValue ty)) (hn : ¬ n < 0) (hN : n.toNatClampNeg = N') (hbytes : N' * componentBytes ty ≤ 536870912) (hcells : cells + 1 ≤ R.cells) (hslots : slots + N' ≤ R.slots) (d1 : decode cc pc = .ok (.aload_n 0, 1)) (hpush : ∀ st, W p l e R s m args below meth c H locs cells slots Q (F0 m pc2 ls (.int n :: st)) → W p l e R s m args below meth c H locs cells slots Q (F0 m (pc + 1) ls st)) (d3 : decode cc pc2 = .ok (.newarray atype, 2)) (d4 : decode cc (pc2 + 2) = .ok (.putfield idx, 3)) (kk : ∀ (q : Nat) (H1 : Heap) (locs1 : List Loc), va_P D xcl (ws.set 0 (h0, .inr (ci, fs.set k (.ref q))) ++ [(q, .inl (cA, a0))]) H1 → va_D A (ws.set 0 (h0, .inr (ci, fs.set k (.ref q))) ++ [(q, .inl (cA, a0))]) → va_S A s.heap H1 locs1 → W p l e R s m args below meth c H1 locs1 (cells + 1) (slots + N') Q (F0 m (pc2 + 2 + 3) ls [])) : W p l e R s m args below meth c H locs cells slots Q (F0 m pc ls []) := by
  obtain ⟨hx, hb, hml, hown, hts, hK, hin⟩ := X
  have hwl : 0 < ws.length := (List.getElem?_eq_some_iff.mp he).1
  refine lv_aload_n hx hb d1 rfl hl ?_
  refine hpush _ ?_
  refine va_newa hx hb (by rw [hat]; exact hts _ harr) hat hK hP hD hS hA ha hn hN hbytes hcells hslots d3 (fun q cA' H1 hK1 hP1 hD1 hS1 => ?_)
  have ec : cA' = cA := by
    have h1 := (hK1.2 tys.length (cA', ty) (by simp)).2
    have h2 := (hK.2 t0 (cA, ty) ht).2
    cases ty with
    | object C => exact absurd rfl (hob C)
    | _ => exact Option.some.inj (h1.symm.trans h2)
  subst ec
  obtain ⟨k1, k2, k3⟩ := xcl_ok ci _ hc
  refine va_putF (D := D) (ci := ci) (v := .ref q) (ty := .array ty) (C := C) (T := T) (N := N) hx hb hts k1 (xty ci) k2 k3 hown hK hP1 hD1 hS1 0 (by rw [List.getElem?_append_left hwl]; exact he) hc k hk (hts _ hlink) (fun _ h9 => h9) hfin hin hdecl hd rfl rfl hkl d4 (fun H2 locs2 hP2 hD2 hS2 => ?_)
  rw [List.set_append_left _ _ hwl] at hP2 hD2
  exact kk q H2 locs2 hP2 hD2 hS2
/-- what a constructor is called with, and what it leaves -/
def CPre (D : va_G) (tys : List (ClassId × FieldType)) (Z : State → Prop) (ci : Nat) (fs : List Value) (h sz : Nat) : State → Prop := fun U => U.heap.size = sz ∧ va_P D xcl [(h, .inr (ci, fs))] U.heap ∧ va_K D xcl tys U ∧ Z U
def CMet (D : va_G) (tys : List (ClassId × FieldType)) (l : Launch) (y : MethodName) (bytes : ByteArray) (rm : Room) (Z : State → Prop) (ci : Nat) (fs : List Value) {S : Type} (Wd : Nat → S → va_W) : Prop := ∀ h sz, Met l y (.code y bytes 1 none :: xg_tbl) rm (va_Pc [.ref h] (CPre D tys Z ci fs h sz)) (va_Qv (fun _ : S => True) (fun u t => va_P D xcl (Wd h u) t.heap ∧ va_D (va_A [(h, .inr (ci, fs))] sz) (Wd h u)) (va_A [(h, .inr (ci, fs))] sz)) rm.cells rm.slots (va_A [(h, .inr (ci, fs))] sz)
theorem k_nst (X : KX D tys p s m args meth c own cc) (hA : ∀ q, s.heap.size ≤ q → A q) (hls : ls.size = 1) (hl : ls[0]? = some (.val (.ref h0))) {ci k N idx i1 i2 ci2 N2 : Nat} {fs fs2 : List Value} {C C2 : String} {T T2 : u_T} {y : MethodName} {bytes : ByteArray} {rm : Room} {Z : State → Prop} {S : Type} {Wd : Nat → S → va_W} (hM : CMet D tys l y bytes rm Z ci2 fs2 Wd) (hP : va_P D xcl ws H) (hD : va_D A ws) (hS : va_S A s.heap H locs) (he : ws[0]? = some (h0, .inr (ci, fs))) (hc : xcl[ci]? = some (C, T, N)) (hc2 : xcl[ci2]? = some (C2, T2, N2)) (hk : k < N) (hkl : k < fs.length) (hlink : Cond.fieldLink own idx (T k).1 (T k).2.1 (T k).2.2.1 ∈ xg_tbl) (hfin : (T k).2.2.2 = true) (hdecl : (T k).1 = own) (hd : parseFieldDescriptor (T k).2.2.1 = some (.object C2)) (hcl : Cond.classLink own i1 C2 ∈ xg_tbl) (hinst : Cond.instantiable C2 N2 ∈ xg_tbl) (hini : Cond.initialized C2 ∈ xg_tbl) (hy : y = ⟨C2, "<init>", "()V"⟩) (hco : Cond.code y bytes 1 none ∈ xg_tbl) (him : Cond.instanceMethod y ∈ xg_tbl) (hyd : y.cls ≠ "java/lang/invoke/MethodHandle" ∧ y.cls ≠ "java/lang/invoke/VarHandle" ∧ (parseMethodDescriptor y.desc).map (fun d => d.parameters.length) = some 0) (hlk : Cond.methodLink own i2 y ∈ xg_tbl ∨ ∃ host, va_Nw (.methodLinkNest own i2 y host) s) (hZ1 : ∀ (a : Array Value) (U : State) (g : JFrame) (mk : MethodId), Z U → Z (U.calling g mk a)) (hZ2 : ∀ U : State, s.WarmedH U.vm → Z U) (hfs : ∀ j, j < N2 → defaultValue (xty ci2 j) = vp_V fs2 j) (hcells : cells + 1 + rm.cells ≤ R.cells) (hslots : slots + N2 + rm.slots ≤ R.slots) (hR : rm.frames + 1 ≤ R.frames ∧ 8 + (1 + 11) + rm.locals ≤ R.locals) (d1 : decode cc pc = .ok (.aload_n 0, 1)) (d2 : decode cc (pc + 1) = .ok (.new i1, 3)) (d3 : decode cc (pc + 4) = .ok (.dup, 1)) (d4 : decode cc (pc + 5) = .ok (.invokespecial i2, 3)) (d5 : decode cc (pc + 8) = .ok (.putfield idx, 3)) (kk : ∀ (q : Nat) (u : S) (H1 : Heap) (locs1 : List Loc), va_P D xcl (ws.set 0 (h0, .inr (ci, fs.set k (.ref q))) ++ Wd q u) H1 → va_D A (ws.set 0 (h0, .inr (ci, fs.set k (.ref q))) ++ Wd q u) → va_S A s.heap H1 locs1 → W p l e R s m args below meth c H1 locs1 (cells + 1 + rm.cells) (slots + N2 + rm.slots) Q (F0 m (pc + 11) ls [])) : W p l e R s m args below meth c H locs cells slots Q (F0 m pc ls []) := by
  obtain ⟨hx, hb, hml, hown, hts, hK, hin⟩ := X
  have hwl : 0 < ws.length := (List.getElem?_eq_some_iff.mp he).1
  subst hy
  refine lv_aload_n hx hb d1 rfl hl ?_
  obtain ⟨j1, j2, j3⟩ := xcl_ok ci2 _ hc2
  refine va_new (D := D) (ci := ci2) (fs := fs2) (C := C2) (T := T2) (N := N2) hx hb hts j1 (xty ci2) j2 hown (hts _ hcl) (hts _ hinst) (hts _ hini) hK hP hD hS hA hc2 hfs (by omega) (by omega) d2 (fun q H1 hP1 hD1 hS1 => ?_)
  refine lv_dup hx hb d3 rfl ?_
  have hFc : ∀ q2, va_A [(q, .inr (ci2, fs2))] H1.size q2 → A q2 := va_free (wc := [(q, .inr (ci2, fs2))]) hD1 hS1 hA [ws.length] last_map
  have hG : GoodIn xg_tbl (.code ⟨C2, "<init>", "()V"⟩ bytes 1 none :: xg_tbl) := good_app (fun w hw => by
    rcases List.mem_cons.mp hw with rfl | h
    · exact hco
    · exact h)
  have hPS : PreS s H1 (va_Pc [.ref q] (CPre D tys Z ci2 fs2 q H1.size)) (.ref q :: []) := ⟨fun a U g mk z => by
      obtain ⟨z0, z1, zP, zK, zZ⟩ := z
      exact ⟨z0, z1, zP, va_K.moved (u := U) (U := U.calling g mk a) (Vm.Alike.refl U.vm) zK, hZ1 a U g mk zZ⟩, fun U hU hW => ⟨rfl, by rw [hU], by rw [hU]; exact P_last hP1, va_K.moved hW.alike hK, hZ2 U hW⟩⟩
  have hrun : va_Run p l e R s m args below meth c H1 locs (cells + 1) (slots + N2) rm.cells rm.slots (F0 m (pc + 1 + 3 + 1) ls [.ref q, .ref q, .ref h0]) [.ref q, .ref h0] (va_Qv (fun _ : S => True) (fun u t => va_P D xcl (Wd q u) t.heap ∧ va_D (va_A [(q, .inr (ci2, fs2))] H1.size) (Wd q u)) (va_A [(q, .inr (ci2, fs2))] H1.size) (Value.ref q :: []).toArray) (va_A [(q, .inr (ci2, fs2))] H1.size) := by
    rcases hlk with h | ⟨host, h⟩
    · exact va_runI (As := []) (rest := [.ref q, .ref h0]) ⟨hx, hb, hml, hown, hts⟩ (hM q H1.size) (cwI 0 hts hG rfl rfl rfl (hts _ hini) (hts _ h) (hts _ him) rfl hyd hR) hPS rfl rfl hls rfl (lv_room (Nat.le_of_ble_eq_true rfl)) d4 ⟨hcells, hslots⟩
    · exact va_runIN (As := []) (rest := [.ref q, .ref h0]) ⟨hx, hb, hml, hown, hts⟩ (hM q H1.size) ⟨va_cnB 0 hts hG rfl rfl rfl h (hts _ hini) hyd hR, rfl, hts _ him⟩ hPS rfl rfl hls rfl (lv_room (Nat.le_of_ble_eq_true rfl)) d4 ⟨hcells, hslots⟩
  refine va_callv hrun hS1 (fun q2 _ h => hFc q2 h) hFc (fun u t H2 locs2 hq hvm hw hB hz1 hk1 hS2 => ?_)
  obtain ⟨hB1, hB2⟩ := hB
  rw [hq] at hB1
  obtain ⟨hP2, hD2⟩ := va_join (wr := ws) (w1 := Wd q u) hP1 hD1 [ws.length] (List.range ws.length) last_map range_map (nd_range _ List.nodup_range) (fun i hi => by rw [List.mem_range] at hi; simp; omega) hk1 hFc hB1 hB2
  obtain ⟨k1, k2, k3⟩ := xcl_ok ci _ hc
  refine va_putF (D := D) (ci := ci) (v := .ref q) (ty := .object C2) (C := C) (T := T) (N := N) hx hb hts k1 (xty ci) k2 k3 hown hK hP2 hD2 hS2 0 (by rw [List.getElem?_append_left hwl]; exact he) hc k hk (hts _ hlink) (fun _ h9 => h9) hfin hin hdecl hd rfl rfl hkl d5 (fun H3 locs3 hP3 hD3 hS3 => ?_)
  rw [List.set_append_left _ _ hwl] at hP3 hD3
  exact kk q u H3 locs3 hP3 hD3 hS3
end CTR
