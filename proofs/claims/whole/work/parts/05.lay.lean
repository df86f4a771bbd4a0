/-! ===== THE LAYER: an abstract memory, a weakest-precondition function over resolved instructions ===== -/
abbrev xM : Type := (Nat → Nat → Int32) × (Nat → Nat → Int64)
def xa (m : xM) (k : Nat) (f : Nat → Int32) : xM := (fun q => if q = k then f else m.1 q, m.2)
def xb (m : xM) (k : Nat) (f : Nat → Int64) : xM := (m.1, fun q => if q = k then f else m.2 q)
/-- launch, tables, addresses, array classes (int, byte, boolean), the value of the formatter static -/
abbrev xG : Type := Launch × va_G × (Nat → Nat) × ClassId × ClassId × ClassId × Value
def cv (G : xG) (v : Value) : Value := match v with
  | .ref k => .ref (G.2.2.1 k)
  | .null => G.2.2.2.2.2.2
  | v => v
def xclubL : List (Nat × Nat) := [(4, 0), (0, 6), (0, 6), (0, 6), (0, 6), (0, 6), (0, 6), (0, 6), (0, 6), (0, 12), (0, 12), (0, 12), (0, 12), (0, 12)]
/-- the cells' shapes: kind (0 ints, 1 bytes, 2 booleans, 3 + class: an object), length -/
def xshL : List (Nat × Nat) := [(10, 0), (8, 0), (0, 8), (0, 8), (0, 320), (6, 0), (1, 400)] ++ xclubL ++ xclubL ++ xclubL ++ xclubL ++ [(5, 0), (9, 0)] ++ xclubL ++ [(5, 0), (0, 16), (7, 0), (0, 6), (0, 6), (3, 0), (0, 16)] ++ [(11, 0), (0, 8), (0, 8), (0, 320), (0, 65), (0, 65), (0, 49), (0, 400), (0, 49), (0, 6), (0, 6), (2, 2), (0, 130), (0, 98)]
def sh (k : Nat) : Nat × Nat := if k < 1000 then xshL.getD k (99, 0) else if k < 1004 then (50, 0) else if k < 1010 then (99, 0) else if k < 1012 then (51, 3) else if k < 1014 then (51, 4) else if k < 1020 then (99, 0) else if k < 1023 then (52, 6) else (99, 0)
/-- what the fixed cells hold: the texts' bytes, the tables of Asks -/
def xc (k : Nat) : Nat → Int32 := match k with
  | 1010 => fun j => [115, 101, 97].getD j 0
  | 1011 => fun j => [109, 117, 100].getD j 0
  | 1012 => fun j => [98, 111, 97, 116].getD j 0
  | 1013 => fun j => [104, 97, 110, 100].getD j 0
  | 1020 => fun j => [-1, 0, 0, 2, 3, 0].getD j 0
  | 1021 => fun j => [10, 0, 11, 12, 14, 13].getD j 0
  | 1022 => fun j => [20, 23, 21, 0, 22, 24].getD j 0
  | _ => fun _ => 0
/-- which cell a reference field holds -/
def rt (k j : Nat) : Nat := match (sh k).1 with
  | 10 => [1, 5, 7, 21, 35, 49, 63, 64, 81, 84].getD j 0
  | 8 => k + 1 + j
  | 6 => k + 1
  | 4 => k + j - 5
  | 9 => [65, 79].getD j 0
  | 7 => k + 1 + j
  | 3 => k + 1
  | 11 => match j with | 2 => 87 | 3 => 88 | 4 => 89 | 5 => 90 | 6 => 91 | 8 => 92 | 9 => 93 | 20 => 94 | 25 => 95 | 26 => 96 | 27 => 97 | 28 => 98 | 29 => 99 | 30 => 80 | _ => 0
  | _ => 0
def xN (ci : Nat) : Nat := (xcl.getD ci ("", xF0, 0)).2.2
def xfv (G : xG) (m : xM) (k ci j : Nat) : Value := match xty ci j with
  | .int => .int (m.1 k j)
  | .boolean => .int (m.1 k j)
  | .long => .long (m.2 k j)
  | _ => .ref (G.2.2.1 (rt k j))
def xcell (G : xG) (m : xM) (k : Nat) : va_E := match (sh k).1 with
  | 0 => .inl (G.2.2.2.1, (sh k).2, .inl (m.1 k))
  | 1 => .inl (G.2.2.2.2.1, (sh k).2, .inl (m.1 k))
  | 2 => .inl (G.2.2.2.2.2.1, (sh k).2, .inl (m.1 k))
  | t + 3 => .inr (t, (List.range (xN t)).map (xfv G m k t))
def wl (G : xG) (m : xM) : va_W := (List.range 100).map (fun k => (G.2.2.1 k, xcell G m k))
theorem wl_at (G : xG) (m : xM) {k : Nat} (h : k < 100) : (wl G m)[k]? = some (G.2.2.1 k, xcell G m k) := by
  unfold wl
  rw [List.getElem?_map, List.getElem?_range h]
  rfl
theorem xcell_eq {G : xG} {m m' : xM} {k : Nat} (h1 : m'.1 k = m.1 k) (h2 : m'.2 k = m.2 k) : xcell G m' k = xcell G m k := by
  unfold xcell xfv
  rw [h1, h2]
theorem wl_set {G : xG} {m m' : xM} {k : Nat} {e : va_E} (hk : k < 100) (h : ∀ q, q ≠ k → m'.1 q = m.1 q ∧ m'.2 q = m.2 q) (he : e = xcell G m' k) : (wl G m).set k (G.2.2.1 k, e) = wl G m' := by
  subst he
  apply List.ext_getElem?
  intro i
  by_cases hi : i = k
  · subst hi
    rw [List.getElem?_set_self (by simp [wl, hk]), wl_at G m' hk]
  · rw [List.getElem?_set_ne (Ne.symm hi)]
    by_cases hl : i < 100
    · rw [wl_at G m hl, wl_at G m' hl, xcell_eq (h i hi).1 (h i hi).2]
    · rw [List.getElem?_eq_none (by simp [wl]; omega), List.getElem?_eq_none (by simp [wl]; omega)]
theorem xshL_len : xshL.length = 100 := by decide +kernel
theorem sh_lt {k : Nat} (h : (sh k).1 < 12) : k < 100 := by
  unfold sh at h
  by_cases h1 : k < 1000
  · rw [if_pos h1] at h
    by_cases h2 : k < 100
    · exact h2
    · rw [List.getD_eq_getElem?_getD, List.getElem?_eq_none (by rw [xshL_len]; omega)] at h
      simp at h
  · rw [if_neg h1] at h
    split at h
    · simp at h
    · split at h
      · simp at h
      · split at h
        · simp at h
        · split at h
          · simp at h
          · split at h
            · simp at h
            · split at h <;> simp at h
def xA (G : xG) : Nat → Prop := fun q => ∃ k, k < 100 ∧ q = G.2.2.1 k
def xInj (G : xG) : Prop := (∀ i j, i < 100 → j < 100 → G.2.2.1 i = G.2.2.1 j → i = j) ∧ G.2.2.2.2.2.2.category = 1
theorem xD {G : xG} (h : xInj G) (m : xM) : va_D (xA G) (wl G m) := by
  have key : ∀ (i : Nat) (p : Nat × va_E), (wl G m)[i]? = some p → i < 100 ∧ p.1 = G.2.2.1 i := by
    intro i p hp
    have hl : i < 100 := by
      have := (List.getElem?_eq_some_iff.mp hp).1
      simpa [wl] using this
    rw [wl_at G m hl] at hp
    cases hp
    exact ⟨hl, rfl⟩
  refine ⟨fun i j p q hp hq e => ?_, fun i p hp => ⟨i, (key i p hp).1, (key i p hp).2⟩⟩
  obtain ⟨a1, a2⟩ := key i p hp
  obtain ⟨b1, b2⟩ := key j q hq
  exact h.1 i j a1 b1 (by rw [← a2, ← b2]; exact e)
abbrev xtys (G : xG) : List (ClassId × FieldType) := [(G.2.2.2.1, .int), (G.2.2.2.2.1, .byte), (G.2.2.2.2.2.1, .boolean)]
def xKs (G : xG) (s : State) : Prop := va_K G.2.1 xcl (xtys G) s
def xtxt : List (Nat × String × Nat) := [(49, "sea", 3), (68, "mud", 3), (34, "boat", 4), (93, "hand", 4)]
def xsta : List String := ["PARENT", "SIZE_BODY", "MARK_BODY"]
/-- what lies outside: the tables of Asks, two statics of the JDK's, the four texts -/
def xEx (G : xG) (s : State) (H : Heap) : Prop :=
  (∀ i, i < 3 → va_Z "OverInDinghy$Asks" (xsta.getD i "") "[I" (.ref (G.2.2.1 (1020 + i))) (xA G) s H ∧ va_T .int (G.2.2.1 (1020 + i)) 6 (fun j => .int (xc (1020 + i) j)) (xA G) s H) ∧
  va_Z "java/lang/String" "COMPACT_STRINGS" "Z" (.int 1) (xA G) s H ∧
  va_Z "jdk/internal/util/Preconditions" "SIOOBE_FORMATTER" "Ljava/util/function/BiFunction;" G.2.2.2.2.2.2 (xA G) s H ∧
  (∀ i, i < 4 → vk_R "OverInDinghy$Reader" (xtxt.getD i (0, "", 0)).1 (xtxt.getD i (0, "", 0)).2.1 (G.2.2.1 (1000 + i)) s) ∧
  (∀ i, i < 4 → va_O "java/lang/String" (G.2.2.1 (1000 + i)) (xA G) s H ∧ va_OF "java/lang/String" "coder" "B" (.int 0) (G.2.2.1 (1000 + i)) (xA G) s H ∧ va_OF "java/lang/String" "value" "[B" (.ref (G.2.2.1 (1010 + i))) (G.2.2.1 (1000 + i)) (xA G) s H ∧ va_T .byte (G.2.2.1 (1010 + i)) (xtxt.getD i (0, "", 0)).2.2 (fun j => .int (xc (1010 + i) j)) (xA G) s H)
theorem xEx.go {G : xG} {s U : State} {H H1 : Heap} (h : xEx G s H) (hW : s.WarmedH U.vm) (hq : ∀ a : Nat, a < H.size → ¬ xA G a → H1[a]? = H[a]?) : xEx G U H1 := by
  obtain ⟨h1, h2, h3, h4, h5⟩ := h
  refine ⟨fun i hi => ⟨((h1 i hi).1.moved hW.alike).kept hq, ((h1 i hi).2.moved hW.alike).kept hq⟩, (h2.moved hW.alike).kept hq, (h3.moved hW.alike).kept hq, fun i hi => (h4 i hi).warm hW, fun i hi => ?_⟩
  obtain ⟨a1, a2, a3, a4⟩ := h5 i hi
  exact ⟨(va_O.moved hW.alike a1).kept hq, (va_OF.moved hW.alike a2).kept hq, (va_OF.moved hW.alike a3).kept hq, (va_T.moved hW.alike a4).kept hq⟩
theorem xEx.vm {G : xG} {s U : State} {H : Heap} (h : xEx G s H) (hv : U.vm = s.vm) : xEx G U H := by
  have ha : s.vm.Alike U.vm := by rw [hv]; exact Vm.Alike.refl _
  obtain ⟨h1, h2, h3, h4, h5⟩ := h
  refine ⟨fun i hi => ⟨(h1 i hi).1.moved ha, (h1 i hi).2.moved ha⟩, h2.moved ha, h3.moved ha, fun i hi => (h4 i hi).same hv, fun i hi => ?_⟩
  obtain ⟨a1, a2, a3, a4⟩ := h5 i hi
  exact ⟨va_O.moved ha a1, va_OF.moved ha a2, va_OF.moved ha a3, va_T.moved ha a4⟩
abbrev xQt : Type := Option Value → xM → Prop
def xPre (G : xG) (m : xM) (U : State) : Prop := va_P G.2.1 xcl (wl G m) U.heap ∧ xKs G U ∧ xEx G U U.heap
def xPost (G : xG) (Q : xQt) : Array Value → State → Outcome → State → Prop := fun _ st o t => (∃ (r : Option Value) (m' : xM), o = .returned (r.map (cv G)) ∧ Q r m' ∧ va_P G.2.1 xcl (wl G m') t.heap) ∧ va_F (xA G) st t
def rmd (d : Nat) : Room := { frames := d + 1, cells := 0, slots := 0, locals := 64 * (d + 1) }
abbrev ht (y : Nat) : Nat := (xe y).2.2.2.2.2.1
abbrev yw (y : Nat) : List Cond := .code (xe y).1 (xe y).2.1 (xe y).2.2.1 (xe y).2.2.2.1 :: xg_tbl
def Tri (G : xG) (y : Nat) (as : List Value) (m : xM) (Q : xQt) : Prop := xInj G → Met G.1 (xe y).1 (yw y) (rmd (ht y)) (va_Pc (as.map (cv G)) (xPre G m)) (xPost G Q) 0 0 (xA G)
def lrp (G : xG) (ls : List Value) (sl : Array Slot) (nL : Nat) : Prop := sl.size = nL ∧ lv_wf sl ∧ ∀ (i : Nat) (v : Value), ls[i]? = some v → v ≠ .null → sl[i]? = some (.val (cv G v))
def Cx (G : xG) (y : Nat) (p : Program) (s : State) (mid : MethodId) (args : Array Value) (meth : Method) (c : Code) : Prop :=
  p.tables.exec = Jvm.exec ∧ c.code = (xe y).2.1 ∧ c.maxLocals = (xe y).2.2.1 ∧ meth.sig.returnType = (xe y).2.2.2.1 ∧ meth.locks = false ∧ s.vm.findClass (cn (xe y).2.2.2.2.1) = some mid.cls ∧ (∀ w ∈ xg_tbl, w.before args s = true) ∧ xKs G s ∧ xEx G s s.heap ∧ xInj G
def VK (G : xG) (y : Nat) (Q : xQt) (pc : Nat) (ls st : List Value) (m : xM) : Prop :=
  ∀ (p : Program) (e : Env) (s : State) (mid : MethodId) (args : Array Value) (below : List Frame) (meth : Method) (c : Code) (H : Heap) (locs : List Loc) (sl : Array Slot), Cx G y p s mid args meth c → va_P G.2.1 xcl (wl G m) H → va_S (xA G) s.heap H locs → lrp G ls sl (xe y).2.2.1 →
    W p G.1 e (rmd (ht y)) s mid args below meth c H locs 0 0 (MQ below (xPost G Q) args s 0 0 (xA G)) (F0 mid pc sl (st.map (cv G)))
