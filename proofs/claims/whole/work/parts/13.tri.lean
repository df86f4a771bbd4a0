/-- the row of instructions, as the machine does it: till a cut, or the end -/
theorem wp_sound {G : xG} {y : Nat} {Q : xQt} {K : Nat → List Value → List Value → xM → Prop} {cut : Nat → Bool} {T : Nat → List Value → xM → xQt → Prop} (hT : ∀ k as m Q1, T k as m Q1 → Tri G k as m Q1) (hK : ∀ pc ls st m, ls.length ≤ (xe y).2.2.1 → K pc ls st m → VK G y Q pc ls st m) : ∀ (is : List xI), ckl y is = true → ∀ ls st m, ls.length ≤ (xe y).2.2.1 → (∀ i l, is = i :: l → wp K cut Q (xe y).2.2.2.1 T none is ls st m → VK G y Q i.1 ls st m) ∧ (∀ t, wp K cut Q (xe y).2.2.2.1 T (some t) is ls st m → VK G y Q t ls st m)
  | [], _, ls, st, m, _ => ⟨fun i l h => (by cases h), fun t h => h.elim⟩
  | i :: is, hck, ls, st, m, hn => by
    obtain ⟨raw, len, hd, hr, hc, hnext, hck2⟩ := ckl_of hck
    have ih := wp_sound (cut := cut) hT hK is hck2
    have one : wp K cut Q (xe y).2.2.2.1 T none (i :: is) ls st m → VK G y Q i.1 ls st m := by
      intro h
      by_cases hcut : cut i.1 = true
      · rw [show wp K cut Q (xe y).2.2.2.1 T none (i :: is) ls st m = K i.1 ls st m from if_pos hcut] at h
        exact hK _ _ _ _ hn h
      · have h' : ex (fun ls st m => wp K cut Q (xe y).2.2.2.1 T none is ls st m) (fun t ls st m => if t.toNat ≤ i.1 then K t.toNat ls st m else wp K cut Q (xe y).2.2.2.1 T (some t.toNat) is ls st m) Q (xe y).2.2.2.1 T i.2 ls st m := by
          rw [show wp K cut Q (xe y).2.2.2.1 T none (i :: is) ls st m = _ from if_neg hcut] at h
          exact h
        rcases hr with hr | hr
        · have key : ex (fun ls st m => ls.length ≤ (xe y).2.2.1 → VK G y Q (i.1 + len) ls st m) (fun t ls st m => ls.length ≤ (xe y).2.2.1 → VK G y Q t.toNat ls st m) Q (xe y).2.2.2.1 (Tri G) i.2 ls st m := by
            generalize i.2 = ins at h'
            refine ex_mono (nx := fun ls st m => wp K cut Q (xe y).2.2.2.1 T none is ls st m) (jp := fun t ls st m => if t.toNat ≤ i.1 then K t.toNat ls st m else wp K cut Q (xe y).2.2.2.1 T (some t.toNat) is ls st m) (T := T) ?_ ?_ ?_ ins ls st m h'
            · intro ls st m h hl
              cases is with
              | nil => exact h.elim
              | cons j l =>
                rw [← hnext j l rfl]
                exact (ih ls st m hl).1 j l rfl h
            · intro t ls st m h hl
              by_cases ht : t.toNat ≤ i.1
              · rw [if_pos ht] at h
                exact hK _ _ _ _ hl h
              · rw [if_neg ht] at h
                exact (ih ls st m hl).2 _ h
            · exact fun k as m Q1 Q2 q z => Tri.mono q (hT _ _ _ _ z)
          exact step hn hd hr hc key
        · rw [hr] at h'
          exact h'.elim
    refine ⟨fun i' l e h => ?_, fun t h => ?_⟩
    · cases e
      exact one h
    · by_cases ht : i.1 = t
      · rw [show wp K cut Q (xe y).2.2.2.1 T (some t) (i :: is) ls st m = wp K cut Q (xe y).2.2.2.1 T none (i :: is) ls st m from if_pos ht] at h
        rw [← ht]
        exact one h
      · rw [show wp K cut Q (xe y).2.2.2.1 T (some t) (i :: is) ls st m = _ from if_neg ht] at h
        exact (ih ls st m hn).2 t h
/-- a run from a place to a cut or to the end -/
def VC (G : xG) (y : Nat) (Q : xQt) (K : Nat → List Value → List Value → xM → Prop) (pc : Nat) (ls st : List Value) (m : xM) : Prop := (∀ pc ls st m, ls.length ≤ (xe y).2.2.1 → K pc ls st m → VK G y Q pc ls st m) → ls.length ≤ (xe y).2.2.1 → VK G y Q pc ls st m
theorem vc_wp {G : xG} {y : Nat} {Q : xQt} {K : Nat → List Value → List Value → xM → Prop} {T : Nat → List Value → xM → xQt → Prop} (hT : ∀ k as m Q1, T k as m Q1 → Tri G k as m Q1) (cut : Nat → Bool) {is : List xI} {pc : Nat} {rt0 : Option FieldType} (hrt : (xe y).2.2.2.1 = rt0) (hck : ckl y is = true) (hpc : is.head?.map (fun i => i.1) = some pc) {ls st : List Value} {m : xM} (h : wp K cut Q rt0 T none is ls st m) : VC G y Q K pc ls st m := by
  intro hK hl
  subst hrt
  cases is with
  | nil => simp at hpc
  | cons i is =>
    simp at hpc
    rw [← hpc]
    exact (wp_sound hT hK (i :: is) hck ls st m hl).1 i is rfl h
/-- weaker cuts -/
theorem vc_mono {G : xG} {y : Nat} {Q : xQt} {K K' : Nat → List Value → List Value → xM → Prop} {pc : Nat} {ls st : List Value} {m : xM} (hq : ∀ pc ls st m, K pc ls st m → VC G y Q K' pc ls st m) (h : VC G y Q K pc ls st m) : VC G y Q K' pc ls st m := fun hK hl => h (fun pc ls st m hl2 hk => hq pc ls st m hk hK hl2) hl
/-- a loop: by a measure -/
theorem vc_loop {G : xG} {y : Nat} {Q : xQt} {K : Nat → List Value → List Value → xM → Prop} {pc : Nat} (I : Nat → List Value → xM → Prop) (hs : ∀ n ls m, I n ls m → VC G y Q (fun pc' ls' st' m' => (pc' = pc ∧ st' = [] ∧ ∃ n', n' < n ∧ I n' ls' m') ∨ K pc' ls' st' m') pc ls [] m) : ∀ n ls m, I n ls m → VC G y Q K pc ls [] m := by
  intro n
  induction n using Nat.strongRecOn with
  | ind n ih =>
    intro ls m hI
    refine vc_mono ?_ (hs n ls m hI)
    intro pc' ls' st' m' h
    rcases h with ⟨rfl, rfl, n', hn, hI'⟩ | h
    · exact ih n' hn ls' m' hI'
    · exact fun hK hl => hK _ _ _ _ hl h
/-- more of the locals may be forgotten -/
theorem vk_sub {G : xG} {y : Nat} {Q : xQt} {pc : Nat} {ls ls' st : List Value} {m : xM} (hs : ∀ (i : Nat) (v : Value), ls'[i]? = some v → v ≠ .null → ls[i]? = some v) (h : VK G y Q pc ls' st m) : VK G y Q pc ls st m :=
  fun p e s mid args below meth c H locs sl C hP hS hL => h p e s mid args below meth c H locs sl C hP hS ⟨hL.1, hL.2.1, fun i v hv hn => hL.2.2 i v (hs i v hv hn) hn⟩
theorem vc_sub {G : xG} {y : Nat} {Q : xQt} {K : Nat → List Value → List Value → xM → Prop} {pc : Nat} {ls ls' st : List Value} {m : xM} (hl : ls'.length = ls.length) (hs : ∀ (i : Nat) (v : Value), ls'[i]? = some v → v ≠ .null → ls[i]? = some v) (h : VC G y Q K pc ls' st m) : VC G y Q K pc ls st m := fun hK hn => vk_sub hs (h hK (by omega))
/-- how the arguments lie in the locals -/
def lay : List Value → List Value
  | [] => []
  | .long x :: l => .long x :: .null :: lay l
  | .double x :: l => .double x :: .null :: lay l
  | v :: l => v :: lay l
theorem lay_args {G : xG} (hG : G.2.2.2.2.2.2.category = 1) : ∀ (as : List Value) (j i : Nat) (v : Value), (lay as)[i]? = some v → v ≠ .null → (j + i, cv G v) ∈ lv_args j (as.map (cv G)) := by
  intro as
  induction as with
  | nil => intro j i v h; simp [lay] at h
  | cons a l ih =>
    intro j i v h hv
    have two : ∀ (w : Value), w.category = 2 → cv G w = w → (w :: .null :: lay l)[i]? = some v → (j + i, cv G v) ∈ lv_args j ((w :: l).map (cv G)) := by
      intro w hw hcw h
      show _ ∈ (j, cv G w) :: lv_args (if (cv G w).category = 2 then j + 2 else j + 1) (l.map (cv G))
      rw [hcw, if_pos hw]
      match i, h with
      | 0, h =>
        simp at h
        subst h
        rw [hcw]
        exact List.mem_cons_self
      | 1, h =>
        simp at h
        exact absurd h.symm hv
      | i + 2, h =>
        have := ih (j + 2) i v (by simpa using h) hv
        rw [show j + (i + 2) = j + 2 + i by omega]
        exact List.mem_cons_of_mem _ this
    have one : ∀ (w : Value), ¬ (cv G w).category = 2 → (w :: lay l)[i]? = some v → (j + i, cv G v) ∈ lv_args j ((w :: l).map (cv G)) := by
      intro w hw h
      show _ ∈ (j, cv G w) :: lv_args (if (cv G w).category = 2 then j + 2 else j + 1) (l.map (cv G))
      rw [if_neg hw]
      match i, h with
      | 0, h =>
        simp at h
        subst h
        exact List.mem_cons_self
      | i + 1, h =>
        have := ih (j + 1) i v (by simpa using h) hv
        rw [show j + (i + 1) = j + 1 + i by omega]
        exact List.mem_cons_of_mem _ this
    cases a with
    | long x => exact two _ rfl rfl h
    | double x => exact two _ rfl rfl h
    | null => exact one _ (by show ¬ (G.2.2.2.2.2.2).category = 2; omega) h
    | int x => exact one _ (by simp [cv, Value.category]) h
    | float x => exact one _ (by simp [cv, Value.category]) h
    | ref x => exact one _ (by simp [cv, Value.category]) h
    | retAddr x => exact one _ (by simp [cv, Value.category]) h
theorem lay_len {G : xG} (hG : G.2.2.2.2.2.2.category = 1) : ∀ (as : List Value), (lg_sl (as.map (cv G))).length = (lay as).length
  | [] => rfl
  | a :: l => by
    have ih := lay_len hG l
    have e : lg_sl ((a :: l).map (cv G)) = (if (cv G a).category = 2 then [.val (cv G a), .second] else [.val (cv G a)]) ++ lg_sl (l.map (cv G)) := by simp [lg_sl]
    rw [e, List.length_append, ih]
    cases a with
    | null =>
      rw [if_neg (by show ¬ (G.2.2.2.2.2.2).category = 2; omega)]
      simp [lay]; omega
    | _ => simp [cv, Value.category, lay]; omega
/-- a method's contract, out of a run from its entry -/
theorem tri_vc {G : xG} {y : Nat} {as ls : List Value} {m : xM} {Q : xQt} (hk : ¬ (xe y).2.2.2.2.2.2.2 = 2) (hls : ls = lay as ++ List.replicate ((xe y).2.2.1 - (lay as).length) .null) (hlen : (lay as).length ≤ (xe y).2.2.1) (h : VC G y Q (fun _ _ _ _ => False) 0 ls [] m) : Tri G y as m Q := by
  intro hi
  obtain ⟨w1, ⟨w2, w3, w4, w5⟩, w6, w7⟩ := xe_kind hk
  refine Met.ofW (cc := (xe y).2.1) (maxL := (xe y).2.2.1) (ret := (xe y).2.2.2.1) w3 rfl ?_
  intro p e s mid args below meth c s₁ B hml hv
  obtain ⟨rfl, hP, hKs, hE⟩ := hv
  have hts := atoms_spec (ws := yw y) B.pre
  have hown : s.vm.findClass (xe y).1.cls = some mid.cls := findClass_of_methodNamed B.named
  have C : Cx G y p s mid (as.map (cv G)).toArray meth c := ⟨B.exec, B.bytes, hml, B.returns, B.notSynchronized, by rw [w4]; exact hown, fun w hw => hts w (List.mem_cons_of_mem _ hw), hKs, hE, hi⟩
  have hl := lv_entry (as.map (cv G)) (n := (xe y).2.2.1) (by rw [lay_len hi.2]; exact hlen)
  rw [lg_entry_eq]
  refine h (fun _ _ _ _ _ q => q.elim) ?_ p e s mid _ below meth c s.heap [] _ C hP va_S.rf ⟨hl.1, hl.2.1, fun i v hv hn => ?_⟩
  · rw [hls, List.length_append, List.length_replicate]
    omega
  · have hv2 : (lay as)[i]? = some v := by
      rw [hls] at hv
      by_cases hi2 : i < (lay as).length
      · rwa [List.getElem?_append_left hi2] at hv
      · rw [List.getElem?_append_right (by omega), List.getElem?_replicate] at hv
        split at hv
        · cases hv
          exact absurd rfl hn
        · cases hv
    have := hl.2.2 _ (lay_args hi.2 as 0 i v hv2 hn)
    simpa using this
/-- a method without a loop -/
theorem tri_wp {G : xG} {y : Nat} {as ls : List Value} {m : xM} {Q : xQt} {T : Nat → List Value → xM → xQt → Prop} (hT : ∀ k as m Q1, T k as m Q1 → Tri G k as m Q1) {is : List xI} {rt0 : Option FieldType} (hck : ckl y is = true) (hk : ¬ (xe y).2.2.2.2.2.2.2 = 2) (hrt : (xe y).2.2.2.1 = rt0) (hls : ls = lay as ++ List.replicate ((xe y).2.2.1 - (lay as).length) .null) (hlen : (lay as).length ≤ (xe y).2.2.1) (hi : is.head?.map (fun i => i.1) = some 0) (h : wp (fun _ _ _ _ => False) (fun _ => false) Q rt0 T none is ls [] m) : Tri G y as m Q :=
  tri_vc hk hls hlen (vc_wp hT (fun _ => false) hrt hck hi h)
/-- a table of callees -/
def TT (tab : List (Nat × (List Value → xM → xQt → Prop))) (k : Nat) (as : List Value) (m : xM) (Q : xQt) : Prop := match tab with
  | [] => False
  | e :: tab => if e.1 = k then e.2 as m Q else TT tab k as m Q
theorem TTn {G : xG} : ∀ k as m Q1, TT [] k as m Q1 → Tri G k as m Q1 := fun _ _ _ _ h => h.elim
theorem TTc {G : xG} {y : Nat} {S : List Value → xM → xQt → Prop} {tab : List (Nat × (List Value → xM → xQt → Prop))} (h1 : ∀ as m Q, S as m Q → Tri G y as m Q) (h2 : ∀ k as m Q1, TT tab k as m Q1 → Tri G k as m Q1) : ∀ k as m Q1, TT ((y, S) :: tab) k as m Q1 → Tri G k as m Q1 := by
  intro k as m Q1 h
  by_cases e : y = k
  · rw [show TT ((y, S) :: tab) k as m Q1 = S as m Q1 from if_pos e] at h
    rw [← e]
    exact h1 as m Q1 h
  · rw [show TT ((y, S) :: tab) k as m Q1 = TT tab k as m Q1 from if_neg e] at h
    exact h2 k as m Q1 h
theorem TTS : (∀ (e : Nat × (List Value → xM → xQt → Prop)) (tab : List (Nat × (List Value → xM → xQt → Prop))) (k : Nat) (as : List Value) (m : xM) (Q : xQt), TT (e :: tab) k as m Q = if e.1 = k then e.2 as m Q else TT tab k as m Q) := fun _ _ _ _ _ _ => rfl
/-- the locals that a loop's head asks for -/
def subL : List Value → List Value → Prop
  | [], [] => True
  | .null :: l, _ :: l' => subL l l'
  | v :: l, w :: l' => v = w ∧ subL l l'
  | _, _ => False
theorem subL_len : ∀ {l l' : List Value}, subL l l' → l.length = l'.length ∧ ∀ (i : Nat) (v : Value), l[i]? = some v → v ≠ .null → l'[i]? = some v
  | [], [], _ => ⟨rfl, fun i v h => by simp at h⟩
  | [], _ :: _, h => h.elim
  | v :: l, [], h => by cases v <;> exact h.elim
  | v :: l, w :: l', h => by
    by_cases hv : v = .null
    · subst hv
      obtain ⟨h1, h2⟩ := subL_len (l := l) (l' := l') h
      refine ⟨by simp [h1], fun i u hu hn => ?_⟩
      cases i with
      | zero => simp at hu; exact absurd hu.symm hn
      | succ i => simpa using h2 i u (by simpa using hu) hn
    · have h' : v = w ∧ subL l l' := by cases v <;> first | exact h | exact absurd rfl hv
      obtain ⟨h1, h2⟩ := subL_len h'.2
      refine ⟨by simp [h1], fun i u hu hn => ?_⟩
      cases i with
      | zero => simp at hu ⊢; rw [← h'.1]; exact hu
      | succ i => simpa using h2 i u (by simpa using hu) hn
theorem subS : (subL [] [] = True) ∧ (∀ (l l' : List Value) (w : Value), subL (.null :: l) (w :: l') = subL l l') ∧ (∀ (x y : Int32) (l l' : List Value), subL (.int x :: l) (.int y :: l') = (x = y ∧ subL l l')) ∧ (∀ (x y : Int64) (l l' : List Value), subL (.long x :: l) (.long y :: l') = (x = y ∧ subL l l')) ∧ (∀ (x y : Nat) (l l' : List Value), subL (.ref x :: l) (.ref y :: l') = (x = y ∧ subL l l')) := by
  refine ⟨rfl, fun _ _ _ => rfl, fun x y l l' => ?_, fun x y l l' => ?_, fun x y l l' => ?_⟩
  · show (Value.int x = Value.int y ∧ subL l l') = _
    simp
  · show (Value.long x = Value.long y ∧ subL l l') = _
    simp
  · show (Value.ref x = Value.ref y ∧ subL l l') = _
    simp
/-- a counted loop, whose states are told by their number -/
theorem vc_for {G : xG} {y : Nat} {Q : xQt} {K : Nat → List Value → List Value → xM → Prop} {pc : Nat} (n : Nat) (L : Nat → List Value) (M : Nat → xM) (hs : ∀ i, i < n → VC G y Q (fun pc' ls' st' m' => (pc' = pc ∧ st' = [] ∧ subL (L (i + 1)) ls' ∧ m' = M (i + 1)) ∨ K pc' ls' st' m') pc (L i) [] (M i)) (hx : VC G y Q K pc (L n) [] (M n)) : VC G y Q K pc (L 0) [] (M 0) := by
  have key : ∀ d i, i + d = n → VC G y Q K pc (L i) [] (M i) := by
    intro d
    induction d with
    | zero =>
      intro i hi
      rw [show i = n by omega]
      exact hx
    | succ d ih =>
      intro i hi
      refine vc_mono ?_ (hs i (by omega))
      intro pc' ls' st' m' h
      rcases h with ⟨rfl, rfl, h1, rfl⟩ | h
      · obtain ⟨g1, g2⟩ := subL_len h1
        exact vc_sub g1 g2 (ih (i + 1) (by omega))
      · exact fun hK hl => hK _ _ _ _ hl h
  exact key n 0 (by omega)
/-- up to a loop's head, and from there on -/
theorem vc_seq {G : xG} {y : Nat} {Q : xQt} {K : Nat → List Value → List Value → xM → Prop} {pc pc1 : Nat} {ls ls1 : List Value} {m m1 : xM} (h1 : VC G y Q (fun pc' ls' st' m' => (pc' = pc1 ∧ st' = [] ∧ subL ls1 ls' ∧ m' = m1) ∨ K pc' ls' st' m') pc ls [] m) (h2 : VC G y Q K pc1 ls1 [] m1) : VC G y Q K pc ls [] m := by
  refine vc_mono ?_ h1
  intro pc' ls' st' m' h
  rcases h with ⟨rfl, rfl, h3, rfl⟩ | h
  · obtain ⟨g1, g2⟩ := subL_len h3
    exact vc_sub g1 g2 h2
  · exact fun hK hl => hK _ _ _ _ hl h
