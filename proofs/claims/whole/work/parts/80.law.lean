/-! THE CLAIM OUT OF ONE WALK OF THE LAW'S BODY. Your part is whole_start (and what it stands on); all else here is the same for every law, but numbers. -/
def R_law : String := "OverInDinghyLaw"
def lw_P (b : Addr) (xs : List Int32) (args : Array Value) (s : State) : Prop := args = #[.ref b] ∧ s.IntsAt b xs ∧ xs.length ≤ 3072 ∧ (Jvm.Cond.and given_1 narrow_1).before args s = true
def lw_Q (_ : Array Value) (s : State) (o : Outcome) (t : State) : Prop := o = .returned (some (.int 1)) ∧ Framed s o t [] 600000 7302250
def lw_Z (below : List Frame) (a : Array Value) (s : State) : State → Prop := fun t => ∃ o, t.status = .running ∧ Ended t below o ∧ lw_Q a s o t
/-- the law's own end, with 1 on the stack, nothing written that was there before, its room as the claim has it -/
theorem lw_ret {p : Program} {l : Launch} {e : Env} {s : State} {m : MethodId} {below : List Frame} {meth : Method} {c : Code} {b : Nat} (hx : p.tables.exec = Jvm.exec) (hb : c.code = code) (hr : meth.sig.returnType = ret) (hlocks : meth.locks = false) {pc : Nat} {H : Heap} {ls : Array Slot} (hdg : decode code pc = .ok (.ireturn, 1)) : W p l e room_1 s m #[Value.ref b] below meth c H [] 600000 7302250 (lw_Z below #[Value.ref b] s) (F0 m pc ls [.int 1]) := by
  intro T hT X
  obtain ⟨fs, hret, hrun, hended, hW, hframe⟩ := X.leave (v := some (.int 1)) (hlocks := hlocks) (fun h => by rw [hr] at h; cases h)
  have hmeth' : T.vm.method? m = some meth := X.method'
  refine ⟨T.setFrames fs, ?_, .returned (some (.int 1)), hrun, hended, rfl, ⟨_, rfl⟩, hW, hframe⟩
  jvm_step X.here [X.here.top, hx, hb, hdg, hmeth', hr, ret, narrow_b1]
  (try refine ⟨rfl, ?_⟩); (try refine ⟨rfl, ?_⟩)
  first | (intro acts; rw [hret _ acts rfl rfl rfl]) | rw [hret _ _ rfl rfl rfl]
  exact Steps.refl _
/-- what holds at the law's entry: the machine, the code, the tables' words (any of lw_tbl by 'hts w (by decide +kernel)'), the script of L ints xs at the cell b, what the Statement gives of the start (any of its parts by flat_of_before) -/
def lw_At (p : Program) (s : State) (m : MethodId) (meth : Method) (c : Code) (b L : Nat) (xs : Nat → Int32) : Prop :=
  p.tables.exec = Jvm.exec ∧ c.code = code ∧ meth.sig.returnType = ret ∧ c.maxLocals = 4 ∧ s.vm.findClass R_law = some m.cls ∧ (∀ w ∈ lw_tbl, w.before #[Value.ref b] s = true) ∧ va_X b L xs s s.heap ∧ b < s.heap.size ∧ meth.locks = false ∧ (Jvm.Cond.and given_1 narrow_1).before #[Value.ref b] s = true
abbrev cCC : Nat := 100
abbrev cSS : Nat := 2692
/-- the law's own state: what does not change in its loop -/
def LX (G : xG) (p : Program) (s : State) (m : MethodId) (meth : Method) (c : Code) (b L : Nat) (xs : Nat → Int32) : Prop := lw_At p s m meth c b L xs ∧ xKs G s ∧ xEx G s s.heap ∧ xInj G ∧ (∀ k, k < 100 → s.heap.size ≤ G.2.2.1 k) ∧ L ≤ 3072
abbrev LW (G : xG) (p : Program) (e : Env) (s : State) (m : MethodId) (below : List Frame) (meth : Method) (c : Code) (b : Nat) (H : Heap) (locs : List Loc) (pc : Nat) (ls : Array Slot) (st : List Value) : Prop := W p G.1 e room_1 s m #[Value.ref b] below meth c H locs cCC cSS (lw_Z below #[Value.ref b] s) (F0 m pc ls st)
section LAWS
variable {G : xG} {p : Program} {e : Env} {s : State} {m : MethodId} {below : List Frame} {meth : Method} {c : Code} {b L : Nat} {xs : Nat → Int32} {H : Heap} {locs : List Loc} {pc : Nat} {ls : Array Slot}
theorem law_call (C : LX G p s m meth c b L xs) {y o idx q4 : Nat} {as rest : List Value} {mm : xM} {Q1 : xQt} (hls : ls.size = 4) (hP : va_P G.2.1 xcl (wl G mm) H) (hS : va_S (xA G) s.heap H locs) (hl : lw_tbl[q4]? = some (Cond.methodLink R_law idx (xe y).1)) (hk0 : (xe y).2.2.2.2.2.2.2 = 1) (hcl : ∃ (t : Nat) (q : vw_C), (sh o).1 = t + 3 ∧ xcl[t]? = some q ∧ q.1 = (xe y).1.cls) (hn : as.length = (xe y).2.2.2.2.2.2.1) (hht : ht y ≤ 20) (h4 : lt4 rest) (hd : decode code pc = .ok (.invokevirtual idx, 3)) (hT : Tri G y (.ref o :: as) mm Q1) (kk : ∀ r m' H1 locs1, Q1 r m' → va_P G.2.1 xcl (wl G m') H1 → va_S (xA G) s.heap H1 locs1 → LW G p e s m below meth c b H1 locs1 (pc + 3) ls ((r.toList ++ rest).map (cv G))) : LW G p e s m below meth c b H locs pc ls ((as.reverse ++ .ref o :: rest).map (cv G)) := by
  obtain ⟨⟨hx, hb, hr, hml, hown, hts0, hX, hbl, hlocks, hgv⟩, hK, hE, hI, hsz, hL⟩ := C
  have hts : ∀ w ∈ xg_tbl, w.before #[Value.ref b] s = true := fun w hw => hts0 w (List.mem_filter.mp hw).1
  obtain ⟨w1, ⟨w2, w3, w4, w5⟩, w6, w7⟩ := xe_kind (k := y) (by omega)
  obtain ⟨hin, hse⟩ : Cond.instanceMethod (xe y).1 ∈ lw_tbl ∧ Cond.selects (xe y).1.cls (xe y).1 (xe y).1 ∈ lw_tbl := by
    rcases w7 with h | h
    · omega
    · exact h.2
  have hG : GoodIn xg_tbl (wsV R_law idx (xe y).1.cls (xe y).1 (yw y)) := by
    refine good_app fun w hw => ?_
    rcases List.mem_append.mp hw with h | h
    · simp only [List.mem_cons, List.not_mem_nil, or_false] at h
      rcases h with rfl | rfl | rfl | rfl
      · exact xg_of (List.mem_of_getElem? hl) rfl
      · exact xg_of hin rfl
      · exact xg_of hse rfl
      · exact xg_of w2 rfl
    · rcases List.mem_cons.mp h with rfl | h
      · exact xg_of w1 rfl
      · exact h
  have hrecv : ∃ cellB : Cell, H[G.2.2.1 o]? = some cellB ∧ cellB.vm.isStatics = false ∧ s.vm.findClass (xe y).1.cls = some cellB.cls := by
    obtain ⟨t, q, h1, h2, h3⟩ := hcl
    have ht9 : t < 9 := by
      have := (List.getElem?_eq_some_iff.mp h2).1
      simpa [xcl] using this
    have hr := va_recv hK hP h2 (q0 := o) (a := G.2.2.1 o) (by rw [wl_at G mm (sh_lt (by omega)), xcell_obj h1])
    rw [h3] at hr
    exact hr
  have hrun : va_Run p G.1 e room_1 s m #[Value.ref b] below meth c H locs cCC cSS 0 0 (F0 m pc ls ((as.reverse ++ .ref o :: rest).map (cv G))) (rest.map (cv G)) (xPost G Q1 (Value.ref (G.2.2.1 o) :: as.map (cv G)).toArray) (xA G) :=
    va_runV (C := (xe y).1.cls) (b := G.2.2.1 o) (As := as.map (cv G)) ⟨hx, hb, hml, hown, hts⟩ (hT hI) (cwV (xe y).2.2.2.2.2.2.1 hts hG rfl rfl rfl ⟨rfl, w6⟩ ⟨by show ht y + 1 + 1 ≤ 2048; omega, by show 8 + ((xe y).2.2.1 + 11) + 64 * (ht y + 1) ≤ 84000; omega⟩) ⟨xpre_blind (as := .ref o :: as), hrecv, fun U hU hW => ⟨rfl, by rw [hU]; exact hP, va_K.moved hW.alike hK, xEx.go hE hW (by rw [hU]; exact hS.2.1)⟩⟩ rfl (by rw [List.length_map]; exact hn) hls (by show (as.reverse ++ .ref o :: rest).map (cv G) = _; rw [List.map_append, List.map_reverse]; rfl) (lv_room (lt4_sum h4)) hd ⟨by decide, by decide⟩
  intro T hT X
  obtain ⟨v, st₀, t, T', L2, h0, X', hL2, e1, e2, ⟨⟨r, m', hv, hq, hp⟩, hz, hk⟩, stp⟩ := hrun T hT X
  cases hv
  rw [h0] at hz hk
  have hS' : va_S (xA G) s.heap T'.heap (locs ++ L2) := ⟨Nat.le_trans hS.1 (by rw [e1]; exact hz), fun q h1 h2 => by rw [e1, hk q (Nat.lt_of_lt_of_le h1 hS.1) h2]; exact hS.2.1 q h1 h2, fun q hq => by
      rcases List.mem_append.mp hq with h | h
      · exact hS.2.2 q h
      · exact hL2 q h⟩
  obtain ⟨t2, a1, b1⟩ := kk r m' T'.heap (locs ++ L2) hq (by rw [e1]; exact hp) hS' T' rfl X'
  refine ⟨t2, stp t2 ?_, b1⟩
  have e9 : (r.map (cv G)).toList ++ rest.map (cv G) = (r.toList ++ rest).map (cv G) := by cases r <;> simp
  show Steps p.tables e below (T'.setTop (F0 m (pc + 3) ls ((r.map (cv G)).toList ++ rest.map (cv G)))) t2
  rw [e9]
  exact a1
/-- the locals of the law -/
abbrev lawL (G : xG) (b i : Nat) : List (Nat × Value) := [(0, .ref b), (1, .ref (G.2.2.1 0)), (2, .ref (G.2.2.1 86)), (3, .int (nI (6 * i)))]
theorem sc_ld (C : LX G p s m meth c b L xs) {i k : Nat} {n : Int} {st : List Value} (hl : lv_has ls 4 (lawL G b i)) (hS : va_S (xA G) s.heap H locs) (hk : k < 6) (hi : 6 * i + 6 ≤ L) (hn : Int32.ofInt n = nI k) (d0 : decode code pc = .ok (.aload_n 0, 1)) (d1 : decode code (pc + 1) = .ok (.iload_n 3, 1)) (d2 : decode code (pc + 2) = .ok (.iconst n, 1)) (d3 : decode code (pc + 3) = .ok (.iadd, 1)) (d4 : decode code (pc + 4) = .ok (.iaload, 1)) (kk : LW G p e s m below meth c b H locs (pc + 5) ls (.int (xs (6 * i + k)) :: st)) : LW G p e s m below meth c b H locs pc ls st := by
  obtain ⟨⟨hx, hb, hr, hml, hown, hts0, hX, hbl, hlocks, hgv⟩, hK, hE, hI, hsz, hL⟩ := C
  have hbA : ¬ xA G b := fun ⟨k, h1, h2⟩ => by have := hsz k h1; omega
  refine lv_aload_n hx hb d0 rfl (lv_at hl 0 rfl) ?_
  refine lv_iload_n hx hb d1 rfl (lv_at hl 3 rfl) ?_
  refine lv_iconst (v := nI k) hx hb d2 hn ?_
  refine lv_iadd hx hb d3 ?_
  rw [nI_add]
  refine va_sld hx hb hX hbl hbA hS (vp_in_nI (by omega) (by omega)) d4 ?_
  rw [show (nI (6 * i + k)).toNatClampNeg = 6 * i + k from nI_clamp (by omega)]
  exact kk
end LAWS

