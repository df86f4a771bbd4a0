theorem k_ent {D : va_G} {tys : List (ClassId × FieldType)} {l : Launch} {C : String} {bytes : ByteArray} {rm : Room} {Z : State → Prop} {ci oi : Nat} {fs : List Value} {S : Type} {Wd : Nat → S → va_W} (hpl : plainName C = true) (d0 : decode bytes 0 = .ok (.aload_n 0, 1)) (d1 : decode bytes 1 = .ok (.invokespecial oi, 3)) (hol : Cond.methodLink C oi Lib.objectInit ∈ xg_tbl) (hoi : Cond.instanceMethod Lib.objectInit ∈ xg_tbl) (hoc : Cond.code Lib.objectInit ⟨#[0xb1]⟩ 1 none ∈ xg_tbl) (hfr : 1 ≤ rm.frames) (hlo : 12 ≤ rm.locals) (body : ∀ (p : Program) (e : Env) (s : State) (m : MethodId) (below : List Frame) (meth : Method) (c : Code) (ls : Array Slot) (A : Nat → Prop) (h : Nat), KX D tys p s m #[Value.ref h] meth c C bytes → meth.sig.returnType = none → meth.locks = false → (∀ q, s.heap.size ≤ q → A q) → ls.size = 1 → ls[0]? = some (.val (.ref h)) → Z s → va_P D xcl [(h, .inr (ci, fs))] s.heap → va_D A [(h, .inr (ci, fs))] → W p l e rm s m #[Value.ref h] below meth c s.heap [] 0 0 (MQ below (va_Qv (fun _ : S => True) (fun u t => va_P D xcl (Wd h u) t.heap ∧ va_D A (Wd h u)) A) #[Value.ref h] s rm.cells rm.slots A) (F0 m 4 ls [])) : CMet D tys l ⟨C, "<init>", "()V"⟩ bytes rm Z ci fs Wd := by
  intro h sz
  refine Met.ofW (cc := bytes) (maxL := 1) (ret := none) (by exact hpl) rfl ?_
  intro p e s m args below meth c s₁ B hml hv
  obtain ⟨rfl, hsz, hP, hK, hZ⟩ := hv
  subst hsz
  have hts0 := atoms_spec (ws := .code ⟨C, "<init>", "()V"⟩ bytes 1 none :: xg_tbl) B.pre
  have hts : ∀ w ∈ xg_tbl, w.before #[Value.ref h] s = true := fun w hw => hts0 w (List.mem_cons_of_mem _ hw)
  have hown : s.vm.findClass C = some m.cls := findClass_of_methodNamed B.named
  have hin : meth.name = "<init>" := (name_of_methodNamed B.named B.method).1
  have hD : va_D (va_A [(h, .inr (ci, fs))] s.heap.size) [(h, .inr (ci, fs))] := (D_last (A := fun _ => True) (ws := []) ⟨fun i j p q hi hj _ => by
    have h1 : i < 1 := (List.getElem?_eq_some_iff.mp hi).1
    have h2 : j < 1 := (List.getElem?_eq_some_iff.mp hj).1
    omega, fun _ _ _ => trivial⟩).self
  have hl := lv_entry ([.ref h]) (n := 1) (Nat.le_of_ble_eq_true rfl)
  rw [lg_entry_eq]
  generalize (lg_sl ([.ref h]) ++ List.replicate (1 - (lg_sl ([.ref h])).length) Slot.unset).toArray = ls at hl ⊢
  have hl : lv_has ls 1 [(0, .ref h)] := hl
  refine lv_aload_n B.exec B.bytes d0 rfl (lv_at hl 0 rfl) ?_
  refine W.objInit B.exec B.bytes hown (hts _ hol) (hts _ hoi) (hts _ hoc) rfl (by rw [hml]; exact hl.1) rfl d1 hfr (by show 2 * 0 + 0 + 12 ≤ rm.locals; omega) ?_
  refine W.eq (g2 := F0 m 4 ls []) rfl ?_
  exact body p e s m below meth c ls _ h ⟨B.exec, B.bytes, hml, hown, hts, hK, hin⟩ B.returns B.notSynchronized (fun q hq => Or.inr hq) hl.1 (lv_at hl 0 rfl) hZ hP hD
theorem k_end {D : va_G} {tys : List (ClassId × FieldType)} {p : Program} {l : Launch} {e : Env} {R : Room} {s : State} {m : MethodId} {args : Array Value} {below : List Frame} {meth : Method} {c : Code} {own : String} {cc : ByteArray} {A : Nat → Prop} {ls : Array Slot} {H : Heap} {locs : List Loc} {cells slots pc : Nat} {h : Nat} {S : Type} {Wd : Nat → S → va_W} (X : KX D tys p s m args meth c own cc) (hr : meth.sig.returnType = none) (hlk : meth.locks = false) (u : S) (hP : va_P D xcl (Wd h u) H) (hD : va_D A (Wd h u)) (hS : va_S A s.heap H locs) (d : decode cc pc = .ok (.return_, 1)) : W p l e R s m args below meth c H locs cells slots (MQ below (va_Qv (fun _ : S => True) (fun u t => va_P D xcl (Wd h u) t.heap ∧ va_D A (Wd h u)) A) args s cells slots A) (F0 m pc ls []) :=
  W.vret X.1 X.2.1 hr (fun t ht hW => ⟨⟨u, rfl, trivial, by rw [ht]; exact hP, hD⟩, hS.F ht⟩) hS.2.2 d hlk

theorem ko_i : Cond.instanceMethod Lib.objectInit ∈ xg_tbl := xg_of (List.mem_of_getElem? (i := 99) (by decide +kernel)) rfl
set_option maxRecDepth 30000 in
theorem ko_c : Cond.code Lib.objectInit ⟨#[0xb1]⟩ 1 none ∈ xg_tbl := xg_of (List.mem_of_getElem? (i := 100) rfl) rfl
theorem ka_int : Cond.arrayClass .int ∈ xg_tbl := xg_of (List.mem_of_getElem? (i := 122) (by decide +kernel)) rfl
theorem ka_byte : Cond.arrayClass .byte ∈ xg_tbl := xg_of (List.mem_of_getElem? (i := 160) (by decide +kernel)) rfl
theorem ka_boolean : Cond.arrayClass .boolean ∈ xg_tbl := xg_of (List.mem_of_getElem? (i := 1038) (by decide +kernel)) rfl
theorem dk_Asks_0 : decode prog_2_method_1_code 0 = .ok (.aload_n 0, 1) := by decide +kernel
theorem dk_Asks_1 : decode prog_2_method_1_code 1 = .ok (.invokespecial 1, 3) := by decide +kernel
theorem dk_Asks_4 : decode prog_2_method_1_code 4 = .ok (.aload_n 0, 1) := by decide +kernel
theorem dk_Asks_5 : decode prog_2_method_1_code 5 = .ok (.bipush 16, 2) := by decide +kernel
theorem dk_Asks_7 : decode prog_2_method_1_code 7 = .ok (.newarray .int, 2) := by decide +kernel
theorem dk_Asks_9 : decode prog_2_method_1_code 9 = .ok (.putfield 9, 3) := by decide +kernel
theorem dk_Asks_12 : decode prog_2_method_1_code 12 = .ok (.return_, 1) := by decide +kernel
theorem ko_Asks : Cond.methodLink "OverInDinghy$Asks" 1 Lib.objectInit ∈ xg_tbl := xg_of (List.mem_of_getElem? (i := 326) (by decide +kernel)) rfl
theorem kl_Asks_9 : Cond.fieldLink "OverInDinghy$Asks" 9 "OverInDinghy$Asks" "begun" "[I" ∈ xg_tbl := xg_of (List.mem_of_getElem? (i := 327) (by decide +kernel)) rfl
def wk_Asks (cI cB cZ : ClassId) (h : Nat) (u : Nat → Nat) : va_W := [(h, .inr (0, [.ref (u 1), .int 0])), (u 1, .inl (cI, 16, .inl (fun _ => 0)))]
set_option maxRecDepth 30000 in
theorem cc_Asks {D : va_G} {cI cB cZ : ClassId} {l : Launch} : CMet D [(cI, .int), (cB, .byte), (cZ, .boolean)] l ⟨"OverInDinghy$Asks", "<init>", "()V"⟩ prog_2_method_1_code { frames := 1, cells := 1, slots := 16, locals := 40 } (fun _ => True) 0 [.null, .int 0] (wk_Asks cI cB cZ) := by
  refine k_ent (Wd := wk_Asks cI cB cZ) (by decide) dk_Asks_0 dk_Asks_1 ko_Asks ko_i ko_c (by decide) (by decide) (fun p e s m below meth c ls A h X hr hlk hA hls hl hZ hP hD => ?_)
  have hS : va_S A s.heap s.heap [] := va_S.rf
  refine k_arr (pc := 4) (pc2 := 7) (ci := 0) (k := 0) (N' := 16) (t0 := 0) (a0 := (16, .inl (fun _ => 0))) (n := 16) X hA hl hP hD hS rfl rfl (by decide) (Nat.le_of_ble_eq_true rfl) kl_Asks_9 rfl rfl rfl rfl ka_int rfl (fun _ h => by cases h) (fun _ => rfl) (by decide) (by decide) (by decide) (by decide) (by decide) dk_Asks_4 (fun st z => lv_bipush X.1 X.2.1 dk_Asks_5 (by decide) z) dk_Asks_7 dk_Asks_9 (fun q1 H1 locs1 hP hD hS => ?_)
  have hP : va_P D xcl [(h, .inr (0, [.ref q1, .int 0])), (q1, .inl (cI, 16, .inl (fun _ => 0)))] H1 := hP
  have hD : va_D A [(h, .inr (0, [.ref q1, .int 0])), (q1, .inl (cI, 16, .inl (fun _ => 0)))] := hD
  exact k_end (Wd := wk_Asks cI cB cZ) X hr hlk (fun i => [h, q1].getD i 0) hP hD hS dk_Asks_12

theorem dk_Reader_0 : decode prog_7_method_1_code 0 = .ok (.aload_n 0, 1) := by decide +kernel
theorem dk_Reader_1 : decode prog_7_method_1_code 1 = .ok (.invokespecial 3, 3) := by decide +kernel
theorem dk_Reader_4 : decode prog_7_method_1_code 4 = .ok (.aload_n 0, 1) := by decide +kernel
theorem dk_Reader_5 : decode prog_7_method_1_code 5 = .ok (.sipush 400, 3) := by decide +kernel
theorem dk_Reader_8 : decode prog_7_method_1_code 8 = .ok (.newarray .byte, 2) := by decide +kernel
theorem dk_Reader_10 : decode prog_7_method_1_code 10 = .ok (.putfield 11, 3) := by decide +kernel
theorem dk_Reader_13 : decode prog_7_method_1_code 13 = .ok (.return_, 1) := by decide +kernel
theorem ko_Reader : Cond.methodLink "OverInDinghy$Reader" 3 Lib.objectInit ∈ xg_tbl := xg_of (List.mem_of_getElem? (i := 128) (by decide +kernel)) rfl
theorem kl_Reader_11 : Cond.fieldLink "OverInDinghy$Reader" 11 "OverInDinghy$Reader" "tape" "[B" ∈ xg_tbl := xg_of (List.mem_of_getElem? (i := 129) (by decide +kernel)) rfl
def wk_Reader (cI cB cZ : ClassId) (h : Nat) (u : Nat → Nat) : va_W := [(h, .inr (3, [.ref (u 1), .int 0, .int 0, .int 0, .int 0, .int 0, .int 0, .int 0, .int 0])), (u 1, .inl (cB, 400, .inl (fun _ => 0)))]
set_option maxRecDepth 30000 in
theorem cc_Reader {D : va_G} {cI cB cZ : ClassId} {l : Launch} : CMet D [(cI, .int), (cB, .byte), (cZ, .boolean)] l ⟨"OverInDinghy$Reader", "<init>", "()V"⟩ prog_7_method_1_code { frames := 1, cells := 1, slots := 400, locals := 40 } (fun _ => True) 3 [.null, .int 0, .int 0, .int 0, .int 0, .int 0, .int 0, .int 0, .int 0] (wk_Reader cI cB cZ) := by
  refine k_ent (Wd := wk_Reader cI cB cZ) (by decide) dk_Reader_0 dk_Reader_1 ko_Reader ko_i ko_c (by decide) (by decide) (fun p e s m below meth c ls A h X hr hlk hA hls hl hZ hP hD => ?_)
  have hS : va_S A s.heap s.heap [] := va_S.rf
  refine k_arr (pc := 4) (pc2 := 8) (ci := 3) (k := 0) (N' := 400) (t0 := 1) (a0 := (400, .inl (fun _ => 0))) (n := 400) X hA hl hP hD hS rfl rfl (by decide) (Nat.le_of_ble_eq_true rfl) kl_Reader_11 rfl rfl rfl rfl ka_byte rfl (fun _ h => by cases h) (fun _ => rfl) (by decide) (by decide) (by decide) (by decide) (by decide) dk_Reader_4 (fun st z => lv_sipush X.1 X.2.1 dk_Reader_5 (by decide) z) dk_Reader_8 dk_Reader_10 (fun q1 H1 locs1 hP hD hS => ?_)
  have hP : va_P D xcl [(h, .inr (3, [.ref q1, .int 0, .int 0, .int 0, .int 0, .int 0, .int 0, .int 0, .int 0])), (q1, .inl (cB, 400, .inl (fun _ => 0)))] H1 := hP
  have hD : va_D A [(h, .inr (3, [.ref q1, .int 0, .int 0, .int 0, .int 0, .int 0, .int 0, .int 0, .int 0])), (q1, .inl (cB, 400, .inl (fun _ => 0)))] := hD
  exact k_end (Wd := wk_Reader cI cB cZ) X hr hlk (fun i => [h, q1].getD i 0) hP hD hS dk_Reader_13

theorem dk_Club_0 : decode prog_3_method_1_code 0 = .ok (.aload_n 0, 1) := by decide +kernel
theorem dk_Club_1 : decode prog_3_method_1_code 1 = .ok (.invokespecial 3, 3) := by decide +kernel
theorem dk_Club_4 : decode prog_3_method_1_code 4 = .ok (.aload_n 0, 1) := by decide +kernel
theorem dk_Club_5 : decode prog_3_method_1_code 5 = .ok (.bipush 6, 2) := by decide +kernel
theorem dk_Club_7 : decode prog_3_method_1_code 7 = .ok (.newarray .int, 2) := by decide +kernel
theorem dk_Club_9 : decode prog_3_method_1_code 9 = .ok (.putfield 9, 3) := by decide +kernel
theorem dk_Club_12 : decode prog_3_method_1_code 12 = .ok (.aload_n 0, 1) := by decide +kernel
theorem dk_Club_13 : decode prog_3_method_1_code 13 = .ok (.bipush 6, 2) := by decide +kernel
theorem dk_Club_15 : decode prog_3_method_1_code 15 = .ok (.newarray .int, 2) := by decide +kernel
theorem dk_Club_17 : decode prog_3_method_1_code 17 = .ok (.putfield 15, 3) := by decide +kernel
theorem dk_Club_20 : decode prog_3_method_1_code 20 = .ok (.aload_n 0, 1) := by decide +kernel
theorem dk_Club_21 : decode prog_3_method_1_code 21 = .ok (.bipush 6, 2) := by decide +kernel
theorem dk_Club_23 : decode prog_3_method_1_code 23 = .ok (.newarray .int, 2) := by decide +kernel
theorem dk_Club_25 : decode prog_3_method_1_code 25 = .ok (.putfield 18, 3) := by decide +kernel
theorem dk_Club_28 : decode prog_3_method_1_code 28 = .ok (.aload_n 0, 1) := by decide +kernel
theorem dk_Club_29 : decode prog_3_method_1_code 29 = .ok (.bipush 6, 2) := by decide +kernel
theorem dk_Club_31 : decode prog_3_method_1_code 31 = .ok (.newarray .int, 2) := by decide +kernel
theorem dk_Club_33 : decode prog_3_method_1_code 33 = .ok (.putfield 21, 3) := by decide +kernel
theorem dk_Club_36 : decode prog_3_method_1_code 36 = .ok (.aload_n 0, 1) := by decide +kernel
theorem dk_Club_37 : decode prog_3_method_1_code 37 = .ok (.bipush 6, 2) := by decide +kernel
theorem dk_Club_39 : decode prog_3_method_1_code 39 = .ok (.newarray .int, 2) := by decide +kernel
theorem dk_Club_41 : decode prog_3_method_1_code 41 = .ok (.putfield 24, 3) := by decide +kernel
theorem dk_Club_44 : decode prog_3_method_1_code 44 = .ok (.aload_n 0, 1) := by decide +kernel
theorem dk_Club_45 : decode prog_3_method_1_code 45 = .ok (.bipush 6, 2) := by decide +kernel
theorem dk_Club_47 : decode prog_3_method_1_code 47 = .ok (.newarray .int, 2) := by decide +kernel
theorem dk_Club_49 : decode prog_3_method_1_code 49 = .ok (.putfield 27, 3) := by decide +kernel
theorem dk_Club_52 : decode prog_3_method_1_code 52 = .ok (.aload_n 0, 1) := by decide +kernel
theorem dk_Club_53 : decode prog_3_method_1_code 53 = .ok (.bipush 6, 2) := by decide +kernel
theorem dk_Club_55 : decode prog_3_method_1_code 55 = .ok (.newarray .int, 2) := by decide +kernel
theorem dk_Club_57 : decode prog_3_method_1_code 57 = .ok (.putfield 30, 3) := by decide +kernel
theorem dk_Club_60 : decode prog_3_method_1_code 60 = .ok (.aload_n 0, 1) := by decide +kernel
theorem dk_Club_61 : decode prog_3_method_1_code 61 = .ok (.bipush 6, 2) := by decide +kernel
theorem dk_Club_63 : decode prog_3_method_1_code 63 = .ok (.newarray .int, 2) := by decide +kernel
theorem dk_Club_65 : decode prog_3_method_1_code 65 = .ok (.putfield 33, 3) := by decide +kernel
theorem dk_Club_68 : decode prog_3_method_1_code 68 = .ok (.aload_n 0, 1) := by decide +kernel
theorem dk_Club_69 : decode prog_3_method_1_code 69 = .ok (.bipush 12, 2) := by decide +kernel
theorem dk_Club_71 : decode prog_3_method_1_code 71 = .ok (.newarray .int, 2) := by decide +kernel
theorem dk_Club_73 : decode prog_3_method_1_code 73 = .ok (.putfield 36, 3) := by decide +kernel
theorem dk_Club_76 : decode prog_3_method_1_code 76 = .ok (.aload_n 0, 1) := by decide +kernel
theorem dk_Club_77 : decode prog_3_method_1_code 77 = .ok (.bipush 12, 2) := by decide +kernel
theorem dk_Club_79 : decode prog_3_method_1_code 79 = .ok (.newarray .int, 2) := by decide +kernel
theorem dk_Club_81 : decode prog_3_method_1_code 81 = .ok (.putfield 39, 3) := by decide +kernel
theorem dk_Club_84 : decode prog_3_method_1_code 84 = .ok (.aload_n 0, 1) := by decide +kernel
theorem dk_Club_85 : decode prog_3_method_1_code 85 = .ok (.bipush 12, 2) := by decide +kernel
theorem dk_Club_87 : decode prog_3_method_1_code 87 = .ok (.newarray .int, 2) := by decide +kernel
theorem dk_Club_89 : decode prog_3_method_1_code 89 = .ok (.putfield 42, 3) := by decide +kernel
theorem dk_Club_92 : decode prog_3_method_1_code 92 = .ok (.aload_n 0, 1) := by decide +kernel
theorem dk_Club_93 : decode prog_3_method_1_code 93 = .ok (.bipush 12, 2) := by decide +kernel
theorem dk_Club_95 : decode prog_3_method_1_code 95 = .ok (.newarray .int, 2) := by decide +kernel
theorem dk_Club_97 : decode prog_3_method_1_code 97 = .ok (.putfield 45, 3) := by decide +kernel
theorem dk_Club_100 : decode prog_3_method_1_code 100 = .ok (.aload_n 0, 1) := by decide +kernel
theorem dk_Club_101 : decode prog_3_method_1_code 101 = .ok (.bipush 12, 2) := by decide +kernel
theorem dk_Club_103 : decode prog_3_method_1_code 103 = .ok (.newarray .int, 2) := by decide +kernel
theorem dk_Club_105 : decode prog_3_method_1_code 105 = .ok (.putfield 48, 3) := by decide +kernel
theorem dk_Club_108 : decode prog_3_method_1_code 108 = .ok (.return_, 1) := by decide +kernel
theorem ko_Club : Cond.methodLink "OverInDinghy$Club" 3 Lib.objectInit ∈ xg_tbl := xg_of (List.mem_of_getElem? (i := 166) (by decide +kernel)) rfl
theorem kl_Club_9 : Cond.fieldLink "OverInDinghy$Club" 9 "OverInDinghy$Club" "beam" "[I" ∈ xg_tbl := xg_of (List.mem_of_getElem? (i := 184) (by decide +kernel)) rfl
theorem kl_Club_15 : Cond.fieldLink "OverInDinghy$Club" 15 "OverInDinghy$Club" "sail" "[I" ∈ xg_tbl := xg_of (List.mem_of_getElem? (i := 186) (by decide +kernel)) rfl
theorem kl_Club_18 : Cond.fieldLink "OverInDinghy$Club" 18 "OverInDinghy$Club" "air" "[I" ∈ xg_tbl := xg_of (List.mem_of_getElem? (i := 188) (by decide +kernel)) rfl
theorem kl_Club_21 : Cond.fieldLink "OverInDinghy$Club" 21 "OverInDinghy$Club" "floats" "[I" ∈ xg_tbl := xg_of (List.mem_of_getElem? (i := 190) (by decide +kernel)) rfl
theorem kl_Club_24 : Cond.fieldLink "OverInDinghy$Club" 24 "OverInDinghy$Club" "how" "[I" ∈ xg_tbl := xg_of (List.mem_of_getElem? (i := 193) (by decide +kernel)) rfl
theorem kl_Club_27 : Cond.fieldLink "OverInDinghy$Club" 27 "OverInDinghy$Club" "mast" "[I" ∈ xg_tbl := xg_of (List.mem_of_getElem? (i := 197) (by decide +kernel)) rfl
theorem kl_Club_30 : Cond.fieldLink "OverInDinghy$Club" 30 "OverInDinghy$Club" "water" "[I" ∈ xg_tbl := xg_of (List.mem_of_getElem? (i := 200) (by decide +kernel)) rfl
theorem kl_Club_33 : Cond.fieldLink "OverInDinghy$Club" 33 "OverInDinghy$Club" "sided" "[I" ∈ xg_tbl := xg_of (List.mem_of_getElem? (i := 203) (by decide +kernel)) rfl
theorem kl_Club_36 : Cond.fieldLink "OverInDinghy$Club" 36 "OverInDinghy$Club" "boatOf" "[I" ∈ xg_tbl := xg_of (List.mem_of_getElem? (i := 205) (by decide +kernel)) rfl
theorem kl_Club_39 : Cond.fieldLink "OverInDinghy$Club" 39 "OverInDinghy$Club" "weight" "[I" ∈ xg_tbl := xg_of (List.mem_of_getElem? (i := 209) (by decide +kernel)) rfl
theorem kl_Club_42 : Cond.fieldLink "OverInDinghy$Club" 42 "OverInDinghy$Club" "lasts" "[I" ∈ xg_tbl := xg_of (List.mem_of_getElem? (i := 213) (by decide +kernel)) rfl
theorem kl_Club_45 : Cond.fieldLink "OverInDinghy$Club" 45 "OverInDinghy$Club" "spot" "[I" ∈ xg_tbl := xg_of (List.mem_of_getElem? (i := 215) (by decide +kernel)) rfl
theorem kl_Club_48 : Cond.fieldLink "OverInDinghy$Club" 48 "OverInDinghy$Club" "grip" "[I" ∈ xg_tbl := xg_of (List.mem_of_getElem? (i := 218) (by decide +kernel)) rfl
def wk_Club (cI cB cZ : ClassId) (h : Nat) (u : Nat → Nat) : va_W := [(h, .inr (1, [.int 0, .int 0, .int 0, .int 0, .int 0, .int 0, .ref (u 1), .ref (u 2), .ref (u 3), .ref (u 4), .ref (u 5), .ref (u 6), .ref (u 7), .ref (u 8), .ref (u 9), .ref (u 10), .ref (u 11), .ref (u 12), .ref (u 13)])), (u 1, .inl (cI, 6, .inl (fun _ => 0))), (u 2, .inl (cI, 6, .inl (fun _ => 0))), (u 3, .inl (cI, 6, .inl (fun _ => 0))), (u 4, .inl (cI, 6, .inl (fun _ => 0))), (u 5, .inl (cI, 6, .inl (fun _ => 0))), (u 6, .inl (cI, 6, .inl (fun _ => 0))), (u 7, .inl (cI, 6, .inl (fun _ => 0))), (u 8, .inl (cI, 6, .inl (fun _ => 0))), (u 9, .inl (cI, 12, .inl (fun _ => 0))), (u 10, .inl (cI, 12, .inl (fun _ => 0))), (u 11, .inl (cI, 12, .inl (fun _ => 0))), (u 12, .inl (cI, 12, .inl (fun _ => 0))), (u 13, .inl (cI, 12, .inl (fun _ => 0)))]
set_option maxRecDepth 30000 in
theorem cc_Club {D : va_G} {cI cB cZ : ClassId} {l : Launch} : CMet D [(cI, .int), (cB, .byte), (cZ, .boolean)] l ⟨"OverInDinghy$Club", "<init>", "()V"⟩ prog_3_method_1_code { frames := 1, cells := 13, slots := 108, locals := 40 } (fun _ => True) 1 [.int 0, .int 0, .int 0, .int 0, .int 0, .int 0, .null, .null, .null, .null, .null, .null, .null, .null, .null, .null, .null, .null, .null] (wk_Club cI cB cZ) := by
  refine k_ent (Wd := wk_Club cI cB cZ) (by decide) dk_Club_0 dk_Club_1 ko_Club ko_i ko_c (by decide) (by decide) (fun p e s m below meth c ls A h X hr hlk hA hls hl hZ hP hD => ?_)
  have hS : va_S A s.heap s.heap [] := va_S.rf
  refine k_arr (pc := 4) (pc2 := 7) (ci := 1) (k := 6) (N' := 6) (t0 := 0) (a0 := (6, .inl (fun _ => 0))) (n := 6) X hA hl hP hD hS rfl rfl (by decide) (Nat.le_of_ble_eq_true rfl) kl_Club_9 rfl rfl rfl rfl ka_int rfl (fun _ h => by cases h) (fun _ => rfl) (by decide) (by decide) (by decide) (by decide) (by decide) dk_Club_4 (fun st z => lv_bipush X.1 X.2.1 dk_Club_5 (by decide) z) dk_Club_7 dk_Club_9 (fun q1 H1 locs1 hP hD hS => ?_)
  have hP : va_P D xcl [(h, .inr (1, [.int 0, .int 0, .int 0, .int 0, .int 0, .int 0, .ref q1, .null, .null, .null, .null, .null, .null, .null, .null, .null, .null, .null, .null])), (q1, .inl (cI, 6, .inl (fun _ => 0)))] H1 := hP
  have hD : va_D A [(h, .inr (1, [.int 0, .int 0, .int 0, .int 0, .int 0, .int 0, .ref q1, .null, .null, .null, .null, .null, .null, .null, .null, .null, .null, .null, .null])), (q1, .inl (cI, 6, .inl (fun _ => 0)))] := hD
  refine k_arr (pc := 12) (pc2 := 15) (ci := 1) (k := 7) (N' := 6) (t0 := 0) (a0 := (6, .inl (fun _ => 0))) (n := 6) X hA hl hP hD hS rfl rfl (by decide) (Nat.le_of_ble_eq_true rfl) kl_Club_15 rfl rfl rfl rfl ka_int rfl (fun _ h => by cases h) (fun _ => rfl) (by decide) (by decide) (by decide) (by decide) (by decide) dk_Club_12 (fun st z => lv_bipush X.1 X.2.1 dk_Club_13 (by decide) z) dk_Club_15 dk_Club_17 (fun q2 H2 locs2 hP hD hS => ?_)
  have hP : va_P D xcl [(h, .inr (1, [.int 0, .int 0, .int 0, .int 0, .int 0, .int 0, .ref q1, .ref q2, .null, .null, .null, .null, .null, .null, .null, .null, .null, .null, .null])), (q1, .inl (cI, 6, .inl (fun _ => 0))), (q2, .inl (cI, 6, .inl (fun _ => 0)))] H2 := hP
  have hD : va_D A [(h, .inr (1, [.int 0, .int 0, .int 0, .int 0, .int 0, .int 0, .ref q1, .ref q2, .null, .null, .null, .null, .null, .null, .null, .null, .null, .null, .null])), (q1, .inl (cI, 6, .inl (fun _ => 0))), (q2, .inl (cI, 6, .inl (fun _ => 0)))] := hD
  refine k_arr (pc := 20) (pc2 := 23) (ci := 1) (k := 8) (N' := 6) (t0 := 0) (a0 := (6, .inl (fun _ => 0))) (n := 6) X hA hl hP hD hS rfl rfl (by decide) (Nat.le_of_ble_eq_true rfl) kl_Club_18 rfl rfl rfl rfl ka_int rfl (fun _ h => by cases h) (fun _ => rfl) (by decide) (by decide) (by decide) (by decide) (by decide) dk_Club_20 (fun st z => lv_bipush X.1 X.2.1 dk_Club_21 (by decide) z) dk_Club_23 dk_Club_25 (fun q3 H3 locs3 hP hD hS => ?_)
  have hP : va_P D xcl [(h, .inr (1, [.int 0, .int 0, .int 0, .int 0, .int 0, .int 0, .ref q1, .ref q2, .ref q3, .null, .null, .null, .null, .null, .null, .null, .null, .null, .null])), (q1, .inl (cI, 6, .inl (fun _ => 0))), (q2, .inl (cI, 6, .inl (fun _ => 0))), (q3, .inl (cI, 6, .inl (fun _ => 0)))] H3 := hP
  have hD : va_D A [(h, .inr (1, [.int 0, .int 0, .int 0, .int 0, .int 0, .int 0, .ref q1, .ref q2, .ref q3, .null, .null, .null, .null, .null, .null, .null, .null, .null, .null])), (q1, .inl (cI, 6, .inl (fun _ => 0))), (q2, .inl (cI, 6, .inl (fun _ => 0))), (q3, .inl (cI, 6, .inl (fun _ => 0)))] := hD
  refine k_arr (pc := 28) (pc2 := 31) (ci := 1) (k := 9) (N' := 6) (t0 := 0) (a0 := (6, .inl (fun _ => 0))) (n := 6) X hA hl hP hD hS rfl rfl (by decide) (Nat.le_of_ble_eq_true rfl) kl_Club_21 rfl rfl rfl rfl ka_int rfl (fun _ h => by cases h) (fun _ => rfl) (by decide) (by decide) (by decide) (by decide) (by decide) dk_Club_28 (fun st z => lv_bipush X.1 X.2.1 dk_Club_29 (by decide) z) dk_Club_31 dk_Club_33 (fun q4 H4 locs4 hP hD hS => ?_)
  have hP : va_P D xcl [(h, .inr (1, [.int 0, .int 0, .int 0, .int 0, .int 0, .int 0, .ref q1, .ref q2, .ref q3, .ref q4, .null, .null, .null, .null, .null, .null, .null, .null, .null])), (q1, .inl (cI, 6, .inl (fun _ => 0))), (q2, .inl (cI, 6, .inl (fun _ => 0))), (q3, .inl (cI, 6, .inl (fun _ => 0))), (q4, .inl (cI, 6, .inl (fun _ => 0)))] H4 := hP
  have hD : va_D A [(h, .inr (1, [.int 0, .int 0, .int 0, .int 0, .int 0, .int 0, .ref q1, .ref q2, .ref q3, .ref q4, .null, .null, .null, .null, .null, .null, .null, .null, .null])), (q1, .inl (cI, 6, .inl (fun _ => 0))), (q2, .inl (cI, 6, .inl (fun _ => 0))), (q3, .inl (cI, 6, .inl (fun _ => 0))), (q4, .inl (cI, 6, .inl (fun _ => 0)))] := hD
  refine k_arr (pc := 36) (pc2 := 39) (ci := 1) (k := 10) (N' := 6) (t0 := 0) (a0 := (6, .inl (fun _ => 0))) (n := 6) X hA hl hP hD hS rfl rfl (by decide) (Nat.le_of_ble_eq_true rfl) kl_Club_24 rfl rfl rfl rfl ka_int rfl (fun _ h => by cases h) (fun _ => rfl) (by decide) (by decide) (by decide) (by decide) (by decide) dk_Club_36 (fun st z => lv_bipush X.1 X.2.1 dk_Club_37 (by decide) z) dk_Club_39 dk_Club_41 (fun q5 H5 locs5 hP hD hS => ?_)
  have hP : va_P D xcl [(h, .inr (1, [.int 0, .int 0, .int 0, .int 0, .int 0, .int 0, .ref q1, .ref q2, .ref q3, .ref q4, .ref q5, .null, .null, .null, .null, .null, .null, .null, .null])), (q1, .inl (cI, 6, .inl (fun _ => 0))), (q2, .inl (cI, 6, .inl (fun _ => 0))), (q3, .inl (cI, 6, .inl (fun _ => 0))), (q4, .inl (cI, 6, .inl (fun _ => 0))), (q5, .inl (cI, 6, .inl (fun _ => 0)))] H5 := hP
  have hD : va_D A [(h, .inr (1, [.int 0, .int 0, .int 0, .int 0, .int 0, .int 0, .ref q1, .ref q2, .ref q3, .ref q4, .ref q5, .null, .null, .null, .null, .null, .null, .null, .null])), (q1, .inl (cI, 6, .inl (fun _ => 0))), (q2, .inl (cI, 6, .inl (fun _ => 0))), (q3, .inl (cI, 6, .inl (fun _ => 0))), (q4, .inl (cI, 6, .inl (fun _ => 0))), (q5, .inl (cI, 6, .inl (fun _ => 0)))] := hD
  refine k_arr (pc := 44) (pc2 := 47) (ci := 1) (k := 11) (N' := 6) (t0 := 0) (a0 := (6, .inl (fun _ => 0))) (n := 6) X hA hl hP hD hS rfl rfl (by decide) (Nat.le_of_ble_eq_true rfl) kl_Club_27 rfl rfl rfl rfl ka_int rfl (fun _ h => by cases h) (fun _ => rfl) (by decide) (by decide) (by decide) (by decide) (by decide) dk_Club_44 (fun st z => lv_bipush X.1 X.2.1 dk_Club_45 (by decide) z) dk_Club_47 dk_Club_49 (fun q6 H6 locs6 hP hD hS => ?_)
  have hP : va_P D xcl [(h, .inr (1, [.int 0, .int 0, .int 0, .int 0, .int 0, .int 0, .ref q1, .ref q2, .ref q3, .ref q4, .ref q5, .ref q6, .null, .null, .null, .null, .null, .null, .null])), (q1, .inl (cI, 6, .inl (fun _ => 0))), (q2, .inl (cI, 6, .inl (fun _ => 0))), (q3, .inl (cI, 6, .inl (fun _ => 0))), (q4, .inl (cI, 6, .inl (fun _ => 0))), (q5, .inl (cI, 6, .inl (fun _ => 0))), (q6, .inl (cI, 6, .inl (fun _ => 0)))] H6 := hP
  have hD : va_D A [(h, .inr (1, [.int 0, .int 0, .int 0, .int 0, .int 0, .int 0, .ref q1, .ref q2, .ref q3, .ref q4, .ref q5, .ref q6, .null, .null, .null, .null, .null, .null, .null])), (q1, .inl (cI, 6, .inl (fun _ => 0))), (q2, .inl (cI, 6, .inl (fun _ => 0))), (q3, .inl (cI, 6, .inl (fun _ => 0))), (q4, .inl (cI, 6, .inl (fun _ => 0))), (q5, .inl (cI, 6, .inl (fun _ => 0))), (q6, .inl (cI, 6, .inl (fun _ => 0)))] := hD
  refine k_arr (pc := 52) (pc2 := 55) (ci := 1) (k := 12) (N' := 6) (t0 := 0) (a0 := (6, .inl (fun _ => 0))) (n := 6) X hA hl hP hD hS rfl rfl (by decide) (Nat.le_of_ble_eq_true rfl) kl_Club_30 rfl rfl rfl rfl ka_int rfl (fun _ h => by cases h) (fun _ => rfl) (by decide) (by decide) (by decide) (by decide) (by decide) dk_Club_52 (fun st z => lv_bipush X.1 X.2.1 dk_Club_53 (by decide) z) dk_Club_55 dk_Club_57 (fun q7 H7 locs7 hP hD hS => ?_)
  have hP : va_P D xcl [(h, .inr (1, [.int 0, .int 0, .int 0, .int 0, .int 0, .int 0, .ref q1, .ref q2, .ref q3, .ref q4, .ref q5, .ref q6, .ref q7, .null, .null, .null, .null, .null, .null])), (q1, .inl (cI, 6, .inl (fun _ => 0))), (q2, .inl (cI, 6, .inl (fun _ => 0))), (q3, .inl (cI, 6, .inl (fun _ => 0))), (q4, .inl (cI, 6, .inl (fun _ => 0))), (q5, .inl (cI, 6, .inl (fun _ => 0))), (q6, .inl (cI, 6, .inl (fun _ => 0))), (q7, .inl (cI, 6, .inl (fun _ => 0)))] H7 := hP
  have hD : va_D A [(h, .inr (1, [.int 0, .int 0, .int 0, .int 0, .int 0, .int 0, .ref q1, .ref q2, .ref q3, .ref q4, .ref q5, .ref q6, .ref q7, .null, .null, .null, .null, .null, .null])), (q1, .inl (cI, 6, .inl (fun _ => 0))), (q2, .inl (cI, 6, .inl (fun _ => 0))), (q3, .inl (cI, 6, .inl (fun _ => 0))), (q4, .inl (cI, 6, .inl (fun _ => 0))), (q5, .inl (cI, 6, .inl (fun _ => 0))), (q6, .inl (cI, 6, .inl (fun _ => 0))), (q7, .inl (cI, 6, .inl (fun _ => 0)))] := hD
  refine k_arr (pc := 60) (pc2 := 63) (ci := 1) (k := 13) (N' := 6) (t0 := 0) (a0 := (6, .inl (fun _ => 0))) (n := 6) X hA hl hP hD hS rfl rfl (by decide) (Nat.le_of_ble_eq_true rfl) kl_Club_33 rfl rfl rfl rfl ka_int rfl (fun _ h => by cases h) (fun _ => rfl) (by decide) (by decide) (by decide) (by decide) (by decide) dk_Club_60 (fun st z => lv_bipush X.1 X.2.1 dk_Club_61 (by decide) z) dk_Club_63 dk_Club_65 (fun q8 H8 locs8 hP hD hS => ?_)
  have hP : va_P D xcl [(h, .inr (1, [.int 0, .int 0, .int 0, .int 0, .int 0, .int 0, .ref q1, .ref q2, .ref q3, .ref q4, .ref q5, .ref q6, .ref q7, .ref q8, .null, .null, .null, .null, .null])), (q1, .inl (cI, 6, .inl (fun _ => 0))), (q2, .inl (cI, 6, .inl (fun _ => 0))), (q3, .inl (cI, 6, .inl (fun _ => 0))), (q4, .inl (cI, 6, .inl (fun _ => 0))), (q5, .inl (cI, 6, .inl (fun _ => 0))), (q6, .inl (cI, 6, .inl (fun _ => 0))), (q7, .inl (cI, 6, .inl (fun _ => 0))), (q8, .inl (cI, 6, .inl (fun _ => 0)))] H8 := hP
  have hD : va_D A [(h, .inr (1, [.int 0, .int 0, .int 0, .int 0, .int 0, .int 0, .ref q1, .ref q2, .ref q3, .ref q4, .ref q5, .ref q6, .ref q7, .ref q8, .null, .null, .null, .null, .null])), (q1, .inl (cI, 6, .inl (fun _ => 0))), (q2, .inl (cI, 6, .inl (fun _ => 0))), (q3, .inl (cI, 6, .inl (fun _ => 0))), (q4, .inl (cI, 6, .inl (fun _ => 0))), (q5, .inl (cI, 6, .inl (fun _ => 0))), (q6, .inl (cI, 6, .inl (fun _ => 0))), (q7, .inl (cI, 6, .inl (fun _ => 0))), (q8, .inl (cI, 6, .inl (fun _ => 0)))] := hD
  refine k_arr (pc := 68) (pc2 := 71) (ci := 1) (k := 14) (N' := 12) (t0 := 0) (a0 := (12, .inl (fun _ => 0))) (n := 12) X hA hl hP hD hS rfl rfl (by decide) (Nat.le_of_ble_eq_true rfl) kl_Club_36 rfl rfl rfl rfl ka_int rfl (fun _ h => by cases h) (fun _ => rfl) (by decide) (by decide) (by decide) (by decide) (by decide) dk_Club_68 (fun st z => lv_bipush X.1 X.2.1 dk_Club_69 (by decide) z) dk_Club_71 dk_Club_73 (fun q9 H9 locs9 hP hD hS => ?_)
  have hP : va_P D xcl [(h, .inr (1, [.int 0, .int 0, .int 0, .int 0, .int 0, .int 0, .ref q1, .ref q2, .ref q3, .ref q4, .ref q5, .ref q6, .ref q7, .ref q8, .ref q9, .null, .null, .null, .null])), (q1, .inl (cI, 6, .inl (fun _ => 0))), (q2, .inl (cI, 6, .inl (fun _ => 0))), (q3, .inl (cI, 6, .inl (fun _ => 0))), (q4, .inl (cI, 6, .inl (fun _ => 0))), (q5, .inl (cI, 6, .inl (fun _ => 0))), (q6, .inl (cI, 6, .inl (fun _ => 0))), (q7, .inl (cI, 6, .inl (fun _ => 0))), (q8, .inl (cI, 6, .inl (fun _ => 0))), (q9, .inl (cI, 12, .inl (fun _ => 0)))] H9 := hP
  have hD : va_D A [(h, .inr (1, [.int 0, .int 0, .int 0, .int 0, .int 0, .int 0, .ref q1, .ref q2, .ref q3, .ref q4, .ref q5, .ref q6, .ref q7, .ref q8, .ref q9, .null, .null, .null, .null])), (q1, .inl (cI, 6, .inl (fun _ => 0))), (q2, .inl (cI, 6, .inl (fun _ => 0))), (q3, .inl (cI, 6, .inl (fun _ => 0))), (q4, .inl (cI, 6, .inl (fun _ => 0))), (q5, .inl (cI, 6, .inl (fun _ => 0))), (q6, .inl (cI, 6, .inl (fun _ => 0))), (q7, .inl (cI, 6, .inl (fun _ => 0))), (q8, .inl (cI, 6, .inl (fun _ => 0))), (q9, .inl (cI, 12, .inl (fun _ => 0)))] := hD
  refine k_arr (pc := 76) (pc2 := 79) (ci := 1) (k := 15) (N' := 12) (t0 := 0) (a0 := (12, .inl (fun _ => 0))) (n := 12) X hA hl hP hD hS rfl rfl (by decide) (Nat.le_of_ble_eq_true rfl) kl_Club_39 rfl rfl rfl rfl ka_int rfl (fun _ h => by cases h) (fun _ => rfl) (by decide) (by decide) (by decide) (by decide) (by decide) dk_Club_76 (fun st z => lv_bipush X.1 X.2.1 dk_Club_77 (by decide) z) dk_Club_79 dk_Club_81 (fun q10 H10 locs10 hP hD hS => ?_)
  have hP : va_P D xcl [(h, .inr (1, [.int 0, .int 0, .int 0, .int 0, .int 0, .int 0, .ref q1, .ref q2, .ref q3, .ref q4, .ref q5, .ref q6, .ref q7, .ref q8, .ref q9, .ref q10, .null, .null, .null])), (q1, .inl (cI, 6, .inl (fun _ => 0))), (q2, .inl (cI, 6, .inl (fun _ => 0))), (q3, .inl (cI, 6, .inl (fun _ => 0))), (q4, .inl (cI, 6, .inl (fun _ => 0))), (q5, .inl (cI, 6, .inl (fun _ => 0))), (q6, .inl (cI, 6, .inl (fun _ => 0))), (q7, .inl (cI, 6, .inl (fun _ => 0))), (q8, .inl (cI, 6, .inl (fun _ => 0))), (q9, .inl (cI, 12, .inl (fun _ => 0))), (q10, .inl (cI, 12, .inl (fun _ => 0)))] H10 := hP
  have hD : va_D A [(h, .inr (1, [.int 0, .int 0, .int 0, .int 0, .int 0, .int 0, .ref q1, .ref q2, .ref q3, .ref q4, .ref q5, .ref q6, .ref q7, .ref q8, .ref q9, .ref q10, .null, .null, .null])), (q1, .inl (cI, 6, .inl (fun _ => 0))), (q2, .inl (cI, 6, .inl (fun _ => 0))), (q3, .inl (cI, 6, .inl (fun _ => 0))), (q4, .inl (cI, 6, .inl (fun _ => 0))), (q5, .inl (cI, 6, .inl (fun _ => 0))), (q6, .inl (cI, 6, .inl (fun _ => 0))), (q7, .inl (cI, 6, .inl (fun _ => 0))), (q8, .inl (cI, 6, .inl (fun _ => 0))), (q9, .inl (cI, 12, .inl (fun _ => 0))), (q10, .inl (cI, 12, .inl (fun _ => 0)))] := hD
  refine k_arr (pc := 84) (pc2 := 87) (ci := 1) (k := 16) (N' := 12) (t0 := 0) (a0 := (12, .inl (fun _ => 0))) (n := 12) X hA hl hP hD hS rfl rfl (by decide) (Nat.le_of_ble_eq_true rfl) kl_Club_42 rfl rfl rfl rfl ka_int rfl (fun _ h => by cases h) (fun _ => rfl) (by decide) (by decide) (by decide) (by decide) (by decide) dk_Club_84 (fun st z => lv_bipush X.1 X.2.1 dk_Club_85 (by decide) z) dk_Club_87 dk_Club_89 (fun q11 H11 locs11 hP hD hS => ?_)
  have hP : va_P D xcl [(h, .inr (1, [.int 0, .int 0, .int 0, .int 0, .int 0, .int 0, .ref q1, .ref q2, .ref q3, .ref q4, .ref q5, .ref q6, .ref q7, .ref q8, .ref q9, .ref q10, .ref q11, .null, .null])), (q1, .inl (cI, 6, .inl (fun _ => 0))), (q2, .inl (cI, 6, .inl (fun _ => 0))), (q3, .inl (cI, 6, .inl (fun _ => 0))), (q4, .inl (cI, 6, .inl (fun _ => 0))), (q5, .inl (cI, 6, .inl (fun _ => 0))), (q6, .inl (cI, 6, .inl (fun _ => 0))), (q7, .inl (cI, 6, .inl (fun _ => 0))), (q8, .inl (cI, 6, .inl (fun _ => 0))), (q9, .inl (cI, 12, .inl (fun _ => 0))), (q10, .inl (cI, 12, .inl (fun _ => 0))), (q11, .inl (cI, 12, .inl (fun _ => 0)))] H11 := hP
  have hD : va_D A [(h, .inr (1, [.int 0, .int 0, .int 0, .int 0, .int 0, .int 0, .ref q1, .ref q2, .ref q3, .ref q4, .ref q5, .ref q6, .ref q7, .ref q8, .ref q9, .ref q10, .ref q11, .null, .null])), (q1, .inl (cI, 6, .inl (fun _ => 0))), (q2, .inl (cI, 6, .inl (fun _ => 0))), (q3, .inl (cI, 6, .inl (fun _ => 0))), (q4, .inl (cI, 6, .inl (fun _ => 0))), (q5, .inl (cI, 6, .inl (fun _ => 0))), (q6, .inl (cI, 6, .inl (fun _ => 0))), (q7, .inl (cI, 6, .inl (fun _ => 0))), (q8, .inl (cI, 6, .inl (fun _ => 0))), (q9, .inl (cI, 12, .inl (fun _ => 0))), (q10, .inl (cI, 12, .inl (fun _ => 0))), (q11, .inl (cI, 12, .inl (fun _ => 0)))] := hD
  refine k_arr (pc := 92) (pc2 := 95) (ci := 1) (k := 17) (N' := 12) (t0 := 0) (a0 := (12, .inl (fun _ => 0))) (n := 12) X hA hl hP hD hS rfl rfl (by decide) (Nat.le_of_ble_eq_true rfl) kl_Club_45 rfl rfl rfl rfl ka_int rfl (fun _ h => by cases h) (fun _ => rfl) (by decide) (by decide) (by decide) (by decide) (by decide) dk_Club_92 (fun st z => lv_bipush X.1 X.2.1 dk_Club_93 (by decide) z) dk_Club_95 dk_Club_97 (fun q12 H12 locs12 hP hD hS => ?_)
  have hP : va_P D xcl [(h, .inr (1, [.int 0, .int 0, .int 0, .int 0, .int 0, .int 0, .ref q1, .ref q2, .ref q3, .ref q4, .ref q5, .ref q6, .ref q7, .ref q8, .ref q9, .ref q10, .ref q11, .ref q12, .null])), (q1, .inl (cI, 6, .inl (fun _ => 0))), (q2, .inl (cI, 6, .inl (fun _ => 0))), (q3, .inl (cI, 6, .inl (fun _ => 0))), (q4, .inl (cI, 6, .inl (fun _ => 0))), (q5, .inl (cI, 6, .inl (fun _ => 0))), (q6, .inl (cI, 6, .inl (fun _ => 0))), (q7, .inl (cI, 6, .inl (fun _ => 0))), (q8, .inl (cI, 6, .inl (fun _ => 0))), (q9, .inl (cI, 12, .inl (fun _ => 0))), (q10, .inl (cI, 12, .inl (fun _ => 0))), (q11, .inl (cI, 12, .inl (fun _ => 0))), (q12, .inl (cI, 12, .inl (fun _ => 0)))] H12 := hP
  have hD : va_D A [(h, .inr (1, [.int 0, .int 0, .int 0, .int 0, .int 0, .int 0, .ref q1, .ref q2, .ref q3, .ref q4, .ref q5, .ref q6, .ref q7, .ref q8, .ref q9, .ref q10, .ref q11, .ref q12, .null])), (q1, .inl (cI, 6, .inl (fun _ => 0))), (q2, .inl (cI, 6, .inl (fun _ => 0))), (q3, .inl (cI, 6, .inl (fun _ => 0))), (q4, .inl (cI, 6, .inl (fun _ => 0))), (q5, .inl (cI, 6, .inl (fun _ => 0))), (q6, .inl (cI, 6, .inl (fun _ => 0))), (q7, .inl (cI, 6, .inl (fun _ => 0))), (q8, .inl (cI, 6, .inl (fun _ => 0))), (q9, .inl (cI, 12, .inl (fun _ => 0))), (q10, .inl (cI, 12, .inl (fun _ => 0))), (q11, .inl (cI, 12, .inl (fun _ => 0))), (q12, .inl (cI, 12, .inl (fun _ => 0)))] := hD
  refine k_arr (pc := 100) (pc2 := 103) (ci := 1) (k := 18) (N' := 12) (t0 := 0) (a0 := (12, .inl (fun _ => 0))) (n := 12) X hA hl hP hD hS rfl rfl (by decide) (Nat.le_of_ble_eq_true rfl) kl_Club_48 rfl rfl rfl rfl ka_int rfl (fun _ h => by cases h) (fun _ => rfl) (by decide) (by decide) (by decide) (by decide) (by decide) dk_Club_100 (fun st z => lv_bipush X.1 X.2.1 dk_Club_101 (by decide) z) dk_Club_103 dk_Club_105 (fun q13 H13 locs13 hP hD hS => ?_)
  have hP : va_P D xcl [(h, .inr (1, [.int 0, .int 0, .int 0, .int 0, .int 0, .int 0, .ref q1, .ref q2, .ref q3, .ref q4, .ref q5, .ref q6, .ref q7, .ref q8, .ref q9, .ref q10, .ref q11, .ref q12, .ref q13])), (q1, .inl (cI, 6, .inl (fun _ => 0))), (q2, .inl (cI, 6, .inl (fun _ => 0))), (q3, .inl (cI, 6, .inl (fun _ => 0))), (q4, .inl (cI, 6, .inl (fun _ => 0))), (q5, .inl (cI, 6, .inl (fun _ => 0))), (q6, .inl (cI, 6, .inl (fun _ => 0))), (q7, .inl (cI, 6, .inl (fun _ => 0))), (q8, .inl (cI, 6, .inl (fun _ => 0))), (q9, .inl (cI, 12, .inl (fun _ => 0))), (q10, .inl (cI, 12, .inl (fun _ => 0))), (q11, .inl (cI, 12, .inl (fun _ => 0))), (q12, .inl (cI, 12, .inl (fun _ => 0))), (q13, .inl (cI, 12, .inl (fun _ => 0)))] H13 := hP
  have hD : va_D A [(h, .inr (1, [.int 0, .int 0, .int 0, .int 0, .int 0, .int 0, .ref q1, .ref q2, .ref q3, .ref q4, .ref q5, .ref q6, .ref q7, .ref q8, .ref q9, .ref q10, .ref q11, .ref q12, .ref q13])), (q1, .inl (cI, 6, .inl (fun _ => 0))), (q2, .inl (cI, 6, .inl (fun _ => 0))), (q3, .inl (cI, 6, .inl (fun _ => 0))), (q4, .inl (cI, 6, .inl (fun _ => 0))), (q5, .inl (cI, 6, .inl (fun _ => 0))), (q6, .inl (cI, 6, .inl (fun _ => 0))), (q7, .inl (cI, 6, .inl (fun _ => 0))), (q8, .inl (cI, 6, .inl (fun _ => 0))), (q9, .inl (cI, 12, .inl (fun _ => 0))), (q10, .inl (cI, 12, .inl (fun _ => 0))), (q11, .inl (cI, 12, .inl (fun _ => 0))), (q12, .inl (cI, 12, .inl (fun _ => 0))), (q13, .inl (cI, 12, .inl (fun _ => 0)))] := hD
  exact k_end (Wd := wk_Club cI cB cZ) X hr hlk (fun i => [h, q1, q2, q3, q4, q5, q6, q7, q8, q9, q10, q11, q12, q13].getD i 0) hP hD hS dk_Club_108

theorem dk_Rescue_0 : decode prog_8_method_1_code 0 = .ok (.aload_n 0, 1) := by decide +kernel
theorem dk_Rescue_1 : decode prog_8_method_1_code 1 = .ok (.invokespecial 3, 3) := by decide +kernel
theorem dk_Rescue_4 : decode prog_8_method_1_code 4 = .ok (.aload_n 0, 1) := by decide +kernel
theorem dk_Rescue_5 : decode prog_8_method_1_code 5 = .ok (.bipush 6, 2) := by decide +kernel
theorem dk_Rescue_7 : decode prog_8_method_1_code 7 = .ok (.newarray .int, 2) := by decide +kernel
theorem dk_Rescue_9 : decode prog_8_method_1_code 9 = .ok (.putfield 9, 3) := by decide +kernel
theorem dk_Rescue_12 : decode prog_8_method_1_code 12 = .ok (.aload_n 0, 1) := by decide +kernel
theorem dk_Rescue_13 : decode prog_8_method_1_code 13 = .ok (.bipush 6, 2) := by decide +kernel
theorem dk_Rescue_15 : decode prog_8_method_1_code 15 = .ok (.newarray .int, 2) := by decide +kernel
theorem dk_Rescue_17 : decode prog_8_method_1_code 17 = .ok (.putfield 15, 3) := by decide +kernel
theorem dk_Rescue_20 : decode prog_8_method_1_code 20 = .ok (.return_, 1) := by decide +kernel
theorem ko_Rescue : Cond.methodLink "OverInDinghy$Rescue" 3 Lib.objectInit ∈ xg_tbl := xg_of (List.mem_of_getElem? (i := 309) (by decide +kernel)) rfl
theorem kl_Rescue_9 : Cond.fieldLink "OverInDinghy$Rescue" 9 "OverInDinghy$Rescue" "order" "[I" ∈ xg_tbl := xg_of (List.mem_of_getElem? (i := 310) (by decide +kernel)) rfl
theorem kl_Rescue_15 : Cond.fieldLink "OverInDinghy$Rescue" 15 "OverInDinghy$Rescue" "odds" "[I" ∈ xg_tbl := xg_of (List.mem_of_getElem? (i := 312) (by decide +kernel)) rfl
def wk_Rescue (cI cB cZ : ClassId) (h : Nat) (u : Nat → Nat) : va_W := [(h, .inr (4, [.ref (u 1), .ref (u 2), .int 0])), (u 1, .inl (cI, 6, .inl (fun _ => 0))), (u 2, .inl (cI, 6, .inl (fun _ => 0)))]
set_option maxRecDepth 30000 in
theorem cc_Rescue {D : va_G} {cI cB cZ : ClassId} {l : Launch} : CMet D [(cI, .int), (cB, .byte), (cZ, .boolean)] l ⟨"OverInDinghy$Rescue", "<init>", "()V"⟩ prog_8_method_1_code { frames := 1, cells := 2, slots := 12, locals := 40 } (fun _ => True) 4 [.null, .null, .int 0] (wk_Rescue cI cB cZ) := by
  refine k_ent (Wd := wk_Rescue cI cB cZ) (by decide) dk_Rescue_0 dk_Rescue_1 ko_Rescue ko_i ko_c (by decide) (by decide) (fun p e s m below meth c ls A h X hr hlk hA hls hl hZ hP hD => ?_)
  have hS : va_S A s.heap s.heap [] := va_S.rf
  refine k_arr (pc := 4) (pc2 := 7) (ci := 4) (k := 0) (N' := 6) (t0 := 0) (a0 := (6, .inl (fun _ => 0))) (n := 6) X hA hl hP hD hS rfl rfl (by decide) (Nat.le_of_ble_eq_true rfl) kl_Rescue_9 rfl rfl rfl rfl ka_int rfl (fun _ h => by cases h) (fun _ => rfl) (by decide) (by decide) (by decide) (by decide) (by decide) dk_Rescue_4 (fun st z => lv_bipush X.1 X.2.1 dk_Rescue_5 (by decide) z) dk_Rescue_7 dk_Rescue_9 (fun q1 H1 locs1 hP hD hS => ?_)
  have hP : va_P D xcl [(h, .inr (4, [.ref q1, .null, .int 0])), (q1, .inl (cI, 6, .inl (fun _ => 0)))] H1 := hP
  have hD : va_D A [(h, .inr (4, [.ref q1, .null, .int 0])), (q1, .inl (cI, 6, .inl (fun _ => 0)))] := hD
  refine k_arr (pc := 12) (pc2 := 15) (ci := 4) (k := 1) (N' := 6) (t0 := 0) (a0 := (6, .inl (fun _ => 0))) (n := 6) X hA hl hP hD hS rfl rfl (by decide) (Nat.le_of_ble_eq_true rfl) kl_Rescue_15 rfl rfl rfl rfl ka_int rfl (fun _ h => by cases h) (fun _ => rfl) (by decide) (by decide) (by decide) (by decide) (by decide) dk_Rescue_12 (fun st z => lv_bipush X.1 X.2.1 dk_Rescue_13 (by decide) z) dk_Rescue_15 dk_Rescue_17 (fun q2 H2 locs2 hP hD hS => ?_)
  have hP : va_P D xcl [(h, .inr (4, [.ref q1, .ref q2, .int 0])), (q1, .inl (cI, 6, .inl (fun _ => 0))), (q2, .inl (cI, 6, .inl (fun _ => 0)))] H2 := hP
  have hD : va_D A [(h, .inr (4, [.ref q1, .ref q2, .int 0])), (q1, .inl (cI, 6, .inl (fun _ => 0))), (q2, .inl (cI, 6, .inl (fun _ => 0)))] := hD
  exact k_end (Wd := wk_Rescue cI cB cZ) X hr hlk (fun i => [h, q1, q2].getD i 0) hP hD hS dk_Rescue_20

theorem dk_Draws_0 : decode prog_4_method_1_code 0 = .ok (.aload_n 0, 1) := by decide +kernel
theorem dk_Draws_1 : decode prog_4_method_1_code 1 = .ok (.invokespecial 1, 3) := by decide +kernel
theorem dk_Draws_4 : decode prog_4_method_1_code 4 = .ok (.aload_n 0, 1) := by decide +kernel
theorem dk_Draws_5 : decode prog_4_method_1_code 5 = .ok (.iconst 1, 1) := by decide +kernel
theorem dk_Draws_6 : decode prog_4_method_1_code 6 = .ok (.putfield 7, 3) := by decide +kernel
theorem dk_Draws_9 : decode prog_4_method_1_code 9 = .ok (.return_, 1) := by decide +kernel
theorem ko_Draws : Cond.methodLink "OverInDinghy$Draws" 1 Lib.objectInit ∈ xg_tbl := xg_of (List.mem_of_getElem? (i := 265) (by decide +kernel)) rfl
theorem kl_Draws_7 : Cond.fieldLink "OverInDinghy$Draws" 7 "OverInDinghy$Draws" "still" "Z" ∈ xg_tbl := xg_of (List.mem_of_getElem? (i := 266) (by decide +kernel)) rfl
def wk_Draws (cI cB cZ : ClassId) (h : Nat) (u : Unit) : va_W := [(h, .inr (2, [.int 1, .long 0]))]
set_option maxRecDepth 30000 in
theorem cc_Draws {D : va_G} {cI cB cZ : ClassId} {l : Launch} : CMet D [(cI, .int), (cB, .byte), (cZ, .boolean)] l ⟨"OverInDinghy$Draws", "<init>", "()V"⟩ prog_4_method_1_code { frames := 1, cells := 0, slots := 0, locals := 40 } (fun _ => True) 2 [.int 0, .long 0] (wk_Draws cI cB cZ) := by
  refine k_ent (Wd := wk_Draws cI cB cZ) (by decide) dk_Draws_0 dk_Draws_1 ko_Draws ko_i ko_c (by decide) (by decide) (fun p e s m below meth c ls A h X hr hlk hA hls hl hZ hP hD => ?_)
  have hS : va_S A s.heap s.heap [] := va_S.rf
  obtain ⟨hx, hb, hml, hown, hts, hK, hin⟩ := id X
  obtain ⟨k1, k2, k3⟩ := xcl_ok 2 _ rfl
  refine lv_aload_n hx hb dk_Draws_4 rfl hl ?_
  refine lv_iconst (v := 1) hx hb dk_Draws_5 (by decide) ?_
  refine va_put (D := D) (ci := 2) (v := .int 1) (ty := .boolean) hx hb hts k1 (xty 2) k2 k3 hown hK hP hD hS 0 rfl rfl 0 (by decide) (hts _ kl_Draws_7) (fun _ h9 => h9) rfl rfl rfl rfl (by decide) dk_Draws_6 (fun H1 locs1 hP hD hS => ?_)
  exact k_end (Wd := wk_Draws cI cB cZ) X hr hlk () hP hD hS dk_Draws_9

