theorem xcell_arr {G : xG} {m : xM} {k : Nat} (h : (sh k).1 = 0) : xcell G m k = .inl (G.2.2.2.1, (sh k).2, .inl (m.1 k)) := by unfold xcell; rw [h]
theorem xcell_byt {G : xG} {m : xM} {k : Nat} (h : (sh k).1 = 1) : xcell G m k = .inl (G.2.2.2.2.1, (sh k).2, .inl (m.1 k)) := by unfold xcell; rw [h]
theorem xcell_boo {G : xG} {m : xM} {k : Nat} (h : (sh k).1 = 2) : xcell G m k = .inl (G.2.2.2.2.2.1, (sh k).2, .inl (m.1 k)) := by unfold xcell; rw [h]
theorem xcell_obj {G : xG} {m : xM} {k t : Nat} (h : (sh k).1 = t + 3) : xcell G m k = .inr (t, (List.range (xN t)).map (xfv G m k t)) := by unfold xcell; rw [h]
theorem wl_up {G : xG} {m : xM} {k : Nat} {f : Nat → Int32} {e : va_E} (hk : k < 100) (he : e = xcell G (xa m k f) k) : (wl G m).set k (G.2.2.1 k, e) = wl G (xa m k f) := wl_set hk (fun q hq => ⟨by simp [xa, hq], rfl⟩) he
theorem wl_upL {G : xG} {m : xM} {k : Nat} {f : Nat → Int64} {e : va_E} (hk : k < 100) (he : e = xcell G (xb m k f) k) : (wl G m).set k (G.2.2.1 k, e) = wl G (xb m k f) := wl_set hk (fun q hq => ⟨rfl, by simp [xb, hq]⟩) he
theorem xa_at (m : xM) (k : Nat) (f : Nat → Int32) : (xa m k f).1 k = f := by simp [xa]
theorem xb_at (m : xM) (k : Nat) (f : Nat → Int64) : (xb m k f).2 k = f := by simp [xb]
theorem xf_of {o i f : Nat} {q4 : Nat} (h : (o, i, f, q4) ∈ xlf) : ∃ q : vw_C, xcl[f / 32]? = some q ∧ f % 32 < q.2.2 ∧ xN (f / 32) = q.2.2 ∧ lw_tbl[q4]? = some (Cond.fieldLink (cn o) i (q.2.1 (f % 32)).1 (q.2.1 (f % 32)).2.1 (q.2.1 (f % 32)).2.2.1) ∧ xfd f = q.2.1 (f % 32) := by
  obtain ⟨h1, q, hq, hj⟩ := xlf_ok _ h
  have e : xfd f = q.2.1 (f % 32) := by unfold xfd; simp only at hq; rw [hq]
  refine ⟨q, hq, hj, ?_, by rw [← e]; exact h1, e⟩
  unfold xN
  rw [List.getD_eq_getElem?_getD]
  simp only at hq
  rw [hq]
  rfl
section SF
variable {G : xG} {y : Nat} {Q : xQt} {pc : Nat} {ls st : List Value} {m : xM}
theorem k_get {i f q4 k : Nat} {v : Value} (hl : ((xe y).2.2.2.2.1, i, f, q4) ∈ xlf) (hk : (sh k).1 = f / 32 + 3) (hv : xfv G m k (f / 32) (f % 32) = cv G v) (hd : decode (xe y).2.1 pc = .ok (.getfield i, 3)) (h : VK G y Q (pc + 3) ls (v :: st) m) : VK G y Q pc ls (.ref k :: st) m := by
  intro p e s mid args below meth c H locs sl C hP hS hL
  obtain ⟨q, hq, hj, hN, hlk, -⟩ := xf_of hl
  have hci : f / 32 < 9 := by
    have := (List.getElem?_eq_some_iff.mp hq).1
    simpa [xcl] using this
  have hk1 : k < 100 := sh_lt (by omega)
  refine va_get (ci := f / 32) (C := q.1) (T := q.2.1) (N := q.2.2) (v := cv G v) C.1 C.2.1 C.2.2.2.2.2.2.1 (xcl_ok _ _ hq).1 C.2.2.2.2.2.1 C.2.2.2.2.2.2.2.1 hP k (fs := (List.range (xN (f / 32))).map (xfv G m k (f / 32))) (by rw [wl_at G m hk1, xcell_obj hk]) hq (f % 32) hj (C_word C hlk rfl) (fun _ h => h) ?_ hd (h p e s mid args below meth c H locs sl C hP hS hL)
  rw [List.getElem?_map, List.getElem?_range (by rw [hN]; exact hj), ← hv]
  rfl
theorem fs_set {G : xG} {m : xM} {k t j : Nat} {x : Int32} (ht : xty t j = .int ∨ xty t j = .boolean) : ((List.range (xN t)).map (xfv G m k t)).set j (.int x) = (List.range (xN t)).map (xfv G (xa m k (upd (m.1 k) j x)) k t) := by
  apply List.ext_getElem?
  intro i
  by_cases hi : i = j
  · subst hi
    by_cases hl : i < xN t
    · rw [List.getElem?_set_self (by simp [hl]), List.getElem?_map, List.getElem?_range hl]
      have : xfv G (xa m k (upd (m.1 k) i x)) k t i = .int x := by
        unfold xfv
        rcases ht with e | e <;> rw [e] <;> simp [xa_at, upd]
      rw [Option.map_some, this]
    · rw [List.getElem?_eq_none (by simp; omega), List.getElem?_eq_none (by simp; omega)]
  · rw [List.getElem?_set_ne (Ne.symm hi)]
    by_cases hl : i < xN t
    · rw [List.getElem?_map, List.getElem?_map, List.getElem?_range hl]
      have : xfv G (xa m k (upd (m.1 k) j x)) k t i = xfv G m k t i := by
        unfold xfv
        rw [xa_at]
        simp only [upd, if_neg hi]
        rfl
      simp only [Option.map_some, this]
    · rw [List.getElem?_eq_none (by simp; omega), List.getElem?_eq_none (by simp; omega)]
theorem fs_setL {G : xG} {m : xM} {k t j : Nat} {x : Int64} (ht : xty t j = .long) : ((List.range (xN t)).map (xfv G m k t)).set j (.long x) = (List.range (xN t)).map (xfv G (xb m k (vp_updL (m.2 k) j x)) k t) := by
  apply List.ext_getElem?
  intro i
  by_cases hi : i = j
  · subst hi
    by_cases hl : i < xN t
    · rw [List.getElem?_set_self (by simp [hl]), List.getElem?_map, List.getElem?_range hl]
      have : xfv G (xb m k (vp_updL (m.2 k) i x)) k t i = .long x := by
        unfold xfv
        rw [ht]
        simp [xb_at, vp_updL]
      rw [Option.map_some, this]
    · rw [List.getElem?_eq_none (by simp; omega), List.getElem?_eq_none (by simp; omega)]
  · rw [List.getElem?_set_ne (Ne.symm hi)]
    by_cases hl : i < xN t
    · rw [List.getElem?_map, List.getElem?_map, List.getElem?_range hl]
      have : xfv G (xb m k (vp_updL (m.2 k) j x)) k t i = xfv G m k t i := by
        unfold xfv
        rw [xb_at]
        simp only [vp_updL, if_neg hi]
        rfl
      simp only [Option.map_some, this]
    · rw [List.getElem?_eq_none (by simp; omega), List.getElem?_eq_none (by simp; omega)]
theorem k_putv {i f q4 k : Nat} {v : Value} {m' : xM} (hl : ((xe y).2.2.2.2.1, i, f, q4) ∈ xlf) (hf : (xfd f).2.2.2 = false) (hk : (sh k).1 = f / 32 + 3) (hcv : cv G v = v) (hn : narrow (xty (f / 32) (f % 32)) v = v) (hfit : fits (xty (f / 32) (f % 32)) v = true) (hm : ((List.range (xN (f / 32))).map (xfv G m k (f / 32))).set (f % 32) v = (List.range (xN (f / 32))).map (xfv G m' k (f / 32))) (ho : ∀ q, q ≠ k → m'.1 q = m.1 q ∧ m'.2 q = m.2 q) (hd : decode (xe y).2.1 pc = .ok (.putfield i, 3)) (h : VK G y Q (pc + 3) ls st m') : VK G y Q pc ls (v :: .ref k :: st) m := by
  intro p e s mid args below meth c H locs sl C hP hS hL
  obtain ⟨q, hq, hj, hN, hlk, hfd⟩ := xf_of hl
  have hci : f / 32 < 9 := by
    have := (List.getElem?_eq_some_iff.mp hq).1
    simpa [xcl] using this
  have hk1 : k < 100 := sh_lt (by omega)
  have hok := xcl_ok _ _ hq
  show W p G.1 e (rmd (ht y)) s mid args below meth c H locs 0 0 _ (F0 mid pc sl (cv G v :: .ref (G.2.2.1 k) :: st.map (cv G)))
  rw [hcv]
  refine va_put (ci := f / 32) (C := q.1) (T := q.2.1) (N := q.2.2) (ty := xty (f / 32) (f % 32)) C.1 C.2.1 C.2.2.2.2.2.2.1 hok.1 (xty (f / 32)) hok.2.1 hok.2.2 C.2.2.2.2.2.1 C.2.2.2.2.2.2.2.1 hP (xD C.2.2.2.2.2.2.2.2.2 m) hS k (fs := (List.range (xN (f / 32))).map (xfv G m k (f / 32))) (by rw [wl_at G m hk1, xcell_obj hk]) hq (f % 32) hj (C_word C hlk rfl) (fun _ h => h) (by rw [← hfd]; exact hf) (hok.2.1 _ hj) hn hfit (by simp [hN]; exact hj) hd (fun H1 locs1 hP1 hD1 hS1 => ?_)
  rw [wl_set hk1 ho (by rw [hm, xcell_obj hk])] at hP1
  exact h p e s mid args below meth c H1 locs1 sl C hP1 hS1 hL
theorem k_puti {i f q4 k : Nat} {x : Int32} (hl : ((xe y).2.2.2.2.1, i, f, q4) ∈ xlf) (hf : (xfd f).2.2.2 = false) (hk : (sh k).1 = f / 32 + 3) (ht : xty (f / 32) (f % 32) = .int) (hd : decode (xe y).2.1 pc = .ok (.putfield i, 3)) (h : VK G y Q (pc + 3) ls st (xa m k (upd (m.1 k) (f % 32) x))) : VK G y Q pc ls (.int x :: .ref k :: st) m :=
  k_putv hl hf hk rfl (by rw [ht]; rfl) (by rw [ht]; rfl) (fs_set (Or.inl ht)) (fun q hq => ⟨by simp [xa, hq], rfl⟩) hd h
theorem k_putz {i f q4 k : Nat} {x : Int32} (hx : x = 0 ∨ x = 1) (hl : ((xe y).2.2.2.2.1, i, f, q4) ∈ xlf) (hf : (xfd f).2.2.2 = false) (hk : (sh k).1 = f / 32 + 3) (ht : xty (f / 32) (f % 32) = .boolean) (hd : decode (xe y).2.1 pc = .ok (.putfield i, 3)) (h : VK G y Q (pc + 3) ls st (xa m k (upd (m.1 k) (f % 32) x))) : VK G y Q pc ls (.int x :: .ref k :: st) m :=
  k_putv hl hf hk rfl (by rw [ht]; rcases hx with rfl | rfl <;> decide) (by rw [ht]; rcases hx with rfl | rfl <;> decide) (fs_set (Or.inr ht)) (fun q hq => ⟨by simp [xa, hq], rfl⟩) hd h
theorem k_putl {i f q4 k : Nat} {x : Int64} (hl : ((xe y).2.2.2.2.1, i, f, q4) ∈ xlf) (hf : (xfd f).2.2.2 = false) (hk : (sh k).1 = f / 32 + 3) (ht : xty (f / 32) (f % 32) = .long) (hd : decode (xe y).2.1 pc = .ok (.putfield i, 3)) (h : VK G y Q (pc + 3) ls st (xb m k (vp_updL (m.2 k) (f % 32) x))) : VK G y Q pc ls (.long x :: .ref k :: st) m :=
  k_putv hl hf hk rfl (by rw [ht]; rfl) (by rw [ht]; rfl) (fs_setL ht) (fun q hq => ⟨rfl, by simp [xb, hq]⟩) hd h
theorem k_iald {k : Nat} {i : Int32} (hk : (sh k).1 = 0) (hi : vp_in i (sh k).2) (hd : decode (xe y).2.1 pc = .ok (.iaload, 1)) (h : VK G y Q (pc + 1) ls (.int (m.1 k i.toNatClampNeg) :: st) m) : VK G y Q pc ls (.int i :: .ref k :: st) m :=
  fun p e s mid args below meth c H locs sl C hP hS hL => va_iald C.1 C.2.1 C.2.2.2.2.2.2.2.1 hP k 0 (by rw [wl_at G m (sh_lt (by omega)), xcell_arr hk]) rfl hi hd (h p e s mid args below meth c H locs sl C hP hS hL)
theorem k_bald {k : Nat} {i : Int32} (hk : (sh k).1 = 1) (hi : vp_in i (sh k).2) (hd : decode (xe y).2.1 pc = .ok (.baload, 1)) (h : VK G y Q (pc + 1) ls (.int (m.1 k i.toNatClampNeg) :: st) m) : VK G y Q pc ls (.int i :: .ref k :: st) m :=
  fun p e s mid args below meth c H locs sl C hP hS hL => va_bald C.1 C.2.1 C.2.2.2.2.2.2.2.1 hP k 1 (by rw [wl_at G m (sh_lt (by omega)), xcell_byt hk]) rfl hi hd (h p e s mid args below meth c H locs sl C hP hS hL)
theorem k_zald {k : Nat} {i : Int32} (hk : (sh k).1 = 2) (hi : vp_in i (sh k).2) (hd : decode (xe y).2.1 pc = .ok (.baload, 1)) (h : VK G y Q (pc + 1) ls (.int (m.1 k i.toNatClampNeg) :: st) m) : VK G y Q pc ls (.int i :: .ref k :: st) m :=
  fun p e s mid args below meth c H locs sl C hP hS hL => va_zald C.1 C.2.1 C.2.2.2.2.2.2.2.1 hP k 2 (by rw [wl_at G m (sh_lt (by omega)), xcell_boo hk]) rfl hi hd (h p e s mid args below meth c H locs sl C hP hS hL)
theorem k_iast {k : Nat} {i x : Int32} (hk : (sh k).1 = 0) (hi : vp_in i (sh k).2) (hd : decode (xe y).2.1 pc = .ok (.iastore, 1)) (h : VK G y Q (pc + 1) ls st (xa m k (upd (m.1 k) i.toNatClampNeg x))) : VK G y Q pc ls (.int x :: .int i :: .ref k :: st) m :=
  fun p e s mid args below meth c H locs sl C hP hS hL => va_iast C.1 C.2.1 C.2.2.2.2.2.2.2.1 hP (xD C.2.2.2.2.2.2.2.2.2 m) hS k 0 (by rw [wl_at G m (sh_lt (by omega)), xcell_arr hk]) rfl hi hd (fun H1 locs1 hP1 _ hS1 => by
    rw [wl_up (sh_lt (by omega)) (by rw [xcell_arr hk, xa_at])] at hP1
    exact h p e s mid args below meth c H1 locs1 sl C hP1 hS1 hL)
theorem k_bast {k : Nat} {i x : Int32} (hk : (sh k).1 = 1) (hi : vp_in i (sh k).2) (hd : decode (xe y).2.1 pc = .ok (.bastore, 1)) (h : VK G y Q (pc + 1) ls st (xa m k (upd (m.1 k) i.toNatClampNeg x.toInt8.toInt32))) : VK G y Q pc ls (.int x :: .int i :: .ref k :: st) m :=
  fun p e s mid args below meth c H locs sl C hP hS hL => va_bast C.1 C.2.1 C.2.2.2.2.2.2.2.1 hP (xD C.2.2.2.2.2.2.2.2.2 m) hS k 1 (by rw [wl_at G m (sh_lt (by omega)), xcell_byt hk]) rfl hi hd (fun H1 locs1 hP1 _ hS1 => by
    rw [vp_nar_byte, wl_up (sh_lt (by omega)) (by rw [xcell_byt hk, xa_at])] at hP1
    exact h p e s mid args below meth c H1 locs1 sl C hP1 hS1 hL)
theorem k_zast {k : Nat} {i x : Int32} (hx : x = 0 ∨ x = 1) (hk : (sh k).1 = 2) (hi : vp_in i (sh k).2) (hd : decode (xe y).2.1 pc = .ok (.bastore, 1)) (h : VK G y Q (pc + 1) ls st (xa m k (upd (m.1 k) i.toNatClampNeg x))) : VK G y Q pc ls (.int x :: .int i :: .ref k :: st) m :=
  fun p e s mid args below meth c H locs sl C hP hS hL => va_zast C.1 C.2.1 C.2.2.2.2.2.2.2.1 hP (xD C.2.2.2.2.2.2.2.2.2 m) hS k 2 (by rw [wl_at G m (sh_lt (by omega)), xcell_boo hk]) rfl hi hd (fun H1 locs1 hP1 _ hS1 => by
    have e9 : vp_nar .boolean x = x := by rcases hx with rfl | rfl <;> decide
    rw [e9, wl_up (sh_lt (by omega)) (by rw [xcell_boo hk, xa_at])] at hP1
    exact h p e s mid args below meth c H1 locs1 sl C hP1 hS1 hL)
theorem k_alen {k : Nat} (hk : (sh k).1 = 0) (hd : decode (xe y).2.1 pc = .ok (.arraylength, 1)) (h : VK G y Q (pc + 1) ls (.int (Int32.ofNat (sh k).2) :: st) m) : VK G y Q pc ls (.ref k :: st) m :=
  fun p e s mid args below meth c H locs sl C hP hS hL => va_alen (x := ((sh k).2, .inl (m.1 k))) C.1 C.2.1 C.2.2.2.2.2.2.2.1 hP k 0 (by rw [wl_at G m (sh_lt (by omega)), xcell_arr hk]) rfl rfl hd (h p e s mid args below meth c H locs sl C hP hS hL)
theorem k_alenX {k : Nat} (hk : (sh k).1 = 51) (hd : decode (xe y).2.1 pc = .ok (.arraylength, 1)) (h : VK G y Q (pc + 1) ls (.int (Int32.ofNat (sh k).2) :: st) m) : VK G y Q pc ls (.ref k :: st) m := by
  intro p e s mid args below meth c H locs sl C hP hS hL
  obtain ⟨i, hi, rfl, hl⟩ := sh51 hk
  obtain ⟨cell, h1, h2, h3, h4, h5, h6, h7⟩ := ((C.2.2.2.2.2.2.2.2.1.2.2.2.2 i hi).2.2.2).kept hS.2.1
  rw [hl] at h
  exact W.alen (n := Int32.ofNat _) C.1 C.2.1 h1 h2 h5 rfl rfl hd (h p e s mid args below meth c H locs sl C hP hS hL)
theorem k_baldX {k : Nat} {j : Int32} (hk : (sh k).1 = 51) (hj : vp_in j (sh k).2) (hd : decode (xe y).2.1 pc = .ok (.baload, 1)) (h : VK G y Q (pc + 1) ls (.int (xc k j.toNatClampNeg) :: st) m) : VK G y Q pc ls (.int j :: .ref k :: st) m := by
  intro p e s mid args below meth c H locs sl C hP hS hL
  obtain ⟨i, hi, rfl, hl⟩ := sh51 hk
  rw [hl] at hj
  obtain ⟨cell, h1, h2, h3, h4, h5, h6, h7⟩ := ((C.2.2.2.2.2.2.2.2.1.2.2.2.2 i hi).2.2.2).kept hS.2.1
  have hlt : j.toNatClampNeg < (xtxt.getD i (0, "", 0)).2.2 := Nat.not_le.mp fun q => hj (Or.inr q)
  exact W.bald (v := .int (xc (1010 + i) j.toNatClampNeg)) C.1 C.2.1 h1 h2 h3 (fun q => q.elim (fun q => hj (Or.inl q)) (fun q => by omega)) (h6 _ hlt) rfl rfl hd (h p e s mid args below meth c H locs sl C hP hS hL)
theorem k_ialdX {k : Nat} {j : Int32} (hk : (sh k).1 = 52) (hj : vp_in j (sh k).2) (hd : decode (xe y).2.1 pc = .ok (.iaload, 1)) (h : VK G y Q (pc + 1) ls (.int (xc k j.toNatClampNeg) :: st) m) : VK G y Q pc ls (.int j :: .ref k :: st) m := by
  intro p e s mid args below meth c H locs sl C hP hS hL
  obtain ⟨i, hi, rfl, hl⟩ := sh52 hk
  rw [hl] at hj
  obtain ⟨cell, h1, h2, h3, h4, h5, h6, h7⟩ := ((C.2.2.2.2.2.2.2.2.1.1 i hi).2).kept hS.2.1
  have hlt : j.toNatClampNeg < 6 := Nat.not_le.mp fun q => hj (Or.inr q)
  exact W.iald (v := .int (xc (1020 + i) j.toNatClampNeg)) C.1 C.2.1 h1 h2 h3 (fun q => q.elim (fun q => hj (Or.inl q)) (fun q => by omega)) (h6 _ hlt) rfl rfl hd (h p e s mid args below meth c H locs sl C hP hS hL)
end SF
