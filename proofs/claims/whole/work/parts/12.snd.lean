theorem fb_rng (x : Int32) : -2147483648 ≤ x.toInt ∧ x.toInt < 2147483648 := by
  have h1 := Int32.le_toInt x
  have h2 := Int32.toInt_lt x
  omega
theorem fb_bmod {z : Int} (h1 : -2147483648 ≤ z) (h2 : z < 2147483648) : z.bmod (2 ^ 32) = z := by
  rw [Int.bmod_eq_of_le (by omega) (by omega)]
theorem fb_addI {x y : Int32} (h1 : -2147483648 ≤ x.toInt + y.toInt) (h2 : x.toInt + y.toInt < 2147483648) : (x + y).toInt = x.toInt + y.toInt := by
  rw [Int32.toInt_add, fb_bmod h1 h2]
theorem fb_subI {x y : Int32} (h1 : -2147483648 ≤ x.toInt - y.toInt) (h2 : x.toInt - y.toInt < 2147483648) : (x - y).toInt = x.toInt - y.toInt := by
  rw [Int32.toInt_sub, fb_bmod h1 h2]
theorem fb_mulI {x y : Int32} (h1 : -2147483648 ≤ x.toInt * y.toInt) (h2 : x.toInt * y.toInt < 2147483648) : (x * y).toInt = x.toInt * y.toInt := by
  rw [Int32.toInt_mul, fb_bmod h1 h2]
theorem fb_negI {x : Int32} (h : x.toInt ≠ -2147483648) : (-x).toInt = -x.toInt := by
  have := fb_rng x
  rw [Int32.toInt_neg, fb_bmod (by omega) (by omega)]
theorem fb_ofI {z : Int} (h1 : -2147483648 ≤ z) (h2 : z < 2147483648) : (Int32.ofInt z).toInt = z := by
  rw [Int32.toInt_ofInt, fb_bmod h1 h2]
theorem fb_asI (x : Int32) : Int32.ofInt x.toInt = x := Int32.ofInt_toInt x
theorem fb_rngL (x : Int64) : -9223372036854775808 ≤ x.toInt ∧ x.toInt < 9223372036854775808 := by
  have h1 := Int64.le_toInt x
  have h2 := Int64.toInt_lt x
  omega
theorem fb_bmodL {z : Int} (h1 : -9223372036854775808 ≤ z) (h2 : z < 9223372036854775808) : z.bmod (2 ^ 64) = z := by
  rw [Int.bmod_eq_of_le (by omega) (by omega)]
theorem fb_addL {x y : Int64} (h1 : -9223372036854775808 ≤ x.toInt + y.toInt) (h2 : x.toInt + y.toInt < 9223372036854775808) : (x + y).toInt = x.toInt + y.toInt := by
  rw [Int64.toInt_add, fb_bmodL h1 h2]
theorem fb_subL {x y : Int64} (h1 : -9223372036854775808 ≤ x.toInt - y.toInt) (h2 : x.toInt - y.toInt < 9223372036854775808) : (x - y).toInt = x.toInt - y.toInt := by
  rw [Int64.toInt_sub, fb_bmodL h1 h2]
theorem fb_mulL {x y : Int64} (h1 : -9223372036854775808 ≤ x.toInt * y.toInt) (h2 : x.toInt * y.toInt < 9223372036854775808) : (x * y).toInt = x.toInt * y.toInt := by
  rw [Int64.toInt_mul, fb_bmodL h1 h2]
/-! ===== cuts of what is narrow already ===== -/
theorem fb_byte {x : Int32} (h1 : -128 ≤ x.toInt) (h2 : x.toInt < 128) : x.toInt8.toInt32 = x := by
  apply Int32.toInt_inj.1
  rw [Int8.toInt_toInt32, Int32.toInt_toInt8, Int.bmod_eq_of_le (by omega) (by omega)]
theorem fb_short {x : Int32} (h1 : -32768 ≤ x.toInt) (h2 : x.toInt < 32768) : x.toInt16.toInt32 = x := by
  apply Int32.toInt_inj.1
  rw [Int16.toInt_toInt32, Int32.toInt_toInt16, Int.bmod_eq_of_le (by omega) (by omega)]
theorem fb_byte_rng (x : Int32) : -128 ≤ x.toInt8.toInt32.toInt ∧ x.toInt8.toInt32.toInt < 128 := by
  rw [Int8.toInt_toInt32]
  have h1 := Int8.le_toInt x.toInt8
  have h2 := Int8.toInt_lt x.toInt8
  omega
theorem fb_short_rng (x : Int32) : -32768 ≤ x.toInt16.toInt32.toInt ∧ x.toInt16.toInt32.toInt < 32768 := by
  rw [Int16.toInt_toInt32]
  have h1 := Int16.le_toInt x.toInt16
  have h2 := Int16.toInt_lt x.toInt16
  omega
theorem fb_byte_twice (x : Int32) : x.toInt8.toInt32.toInt8.toInt32 = x.toInt8.toInt32 := fb_byte (fb_byte_rng x).1 (fb_byte_rng x).2
theorem fb_short_twice (x : Int32) : x.toInt16.toInt32.toInt16.toInt32 = x.toInt16.toInt32 := fb_short (fb_short_rng x).1 (fb_short_rng x).2
theorem fb_char {n : Nat} (h : n < 65536) : (nI n).toUInt32.toUInt16.toUInt32.toInt32 = nI n := by
  apply Int32.toBitVec_inj.1
  apply BitVec.eq_of_toNat_eq
  have e1 : (nI n).toBitVec.toNat = n := by
    show (BitVec.ofNat 32 n).toNat = n
    rw [BitVec.toNat_ofNat, Nat.mod_eq_of_lt (by omega)]
  have e2 : ((nI n).toUInt32.toUInt16.toUInt32).toNat = n := by
    rw [UInt16.toNat_toUInt32, UInt32.toNat_toUInt16]
    show (nI n).toBitVec.toNat % 2 ^ 16 = n
    rw [e1, Nat.mod_eq_of_lt (by omega)]
  rw [e1]
  exact e2
theorem swt_of {x : Int32} {P : Int → Prop} {d : Int} : ∀ {l : List Int} {lo : Int}, swt x P d lo l → (∀ (j : Nat) (t : Int), l[j]? = some t → x = Int32.ofInt (lo + j) → (∀ i : Nat, i < j → ¬ x = Int32.ofInt (lo + i)) → P t) ∧ ((∀ j : Nat, j < l.length → ¬ x = Int32.ofInt (lo + j)) → P d)
  | [], lo, h => ⟨fun j t hj => by simp at hj, fun _ => h⟩
  | t :: l, lo, h => by
    obtain ⟨h1, h2⟩ := h
    refine ⟨fun j t' hj hx hn => ?_, fun hn => ?_⟩
    · cases j with
      | zero =>
        simp at hj
        subst hj
        exact h1 (by simpa using hx)
      | succ j =>
        have h0 : ¬ x = Int32.ofInt lo := by
          have := hn 0 (by omega)
          simpa using this
        refine (swt_of (h2 h0)).1 j t' (by simpa using hj) (by rw [hx]; congr 1; push_cast; omega) (fun i hi => ?_)
        have := hn (i + 1) (by omega)
        intro z
        apply this
        rw [z]
        congr 1
        push_cast
        omega
    · have h0 : ¬ x = Int32.ofInt lo := by
        have := hn 0 (by simp)
        simpa using this
      refine (swt_of (h2 h0)).2 (fun j hj z => ?_)
      apply hn (j + 1) (by simp; omega)
      rw [z]
      congr 1
      push_cast
      omega
theorem k_switch {G : xG} {y : Nat} {Q : xQt} {pc : Nat} {ls st : List Value} {m : xM} {d lo hi : Int} {ts : Array Int} {len : Nat} {x : Int32} (hd : decode (xe y).2.1 pc = .ok (.tableswitch d lo hi ts, len)) (h0 : 0 ≤ (pc : Int) + d) (h1 : ∀ t ∈ ts.toList, 0 ≤ (pc : Int) + t) (h2 : hi = lo + ts.size - 1) (h3 : -1000 ≤ lo) (h4 : ts.size ≤ 1000) (h5 : lo ≤ 1000) (h : swt x (fun t => VK G y Q t.toNat ls st m) ((pc : Int) + d) lo (ts.map (fun t => (pc : Int) + t)).toList) : VK G y Q pc ls (.int x :: st) m := by
  intro p e s mid args below meth c H locs sl C hP hS hL
  obtain ⟨g1, g2⟩ := swt_of h
  by_cases hr : x.toInt < lo ∨ hi < x.toInt
  · refine lv_tableOut C.1 C.2.1 hd hr (Int.toNat_of_nonneg h0).symm (g2 (fun j hj z => ?_) p e s mid args below meth c H locs sl C hP hS hL)
    simp at hj
    have := congrArg Int32.toInt z
    rw [fb_ofI (by omega) (by omega)] at this
    omega
  · have hr1 : ¬ x.toInt < lo := fun q => hr (Or.inl q)
    have hr2 : ¬ hi < x.toInt := fun q => hr (Or.inr q)
    have hj : (x.toInt - lo).toNat < ts.size := by omega
    have ho : ts[(x.toInt - lo).toNat]? = some ts[(x.toInt - lo).toNat] := Array.getElem?_eq_getElem hj
    have hm : ts[(x.toInt - lo).toNat] ∈ ts.toList := by simp
    refine lv_tableIn C.1 C.2.1 hd hr1 hr2 ho (Int.toNat_of_nonneg (h1 _ hm)).symm (g1 (x.toInt - lo).toNat _ ?_ ?_ ?_ p e s mid args below meth c H locs sl C hP hS hL)
    · simp [hj]
    · rw [show lo + ((x.toInt - lo).toNat : Int) = x.toInt by omega, fb_asI]
    · intro i hi z
      have := congrArg Int32.toInt z
      rw [fb_ofI (by omega) (by omega)] at this
      omega
def ckc (y : Nat) (res : Instr) : Bool := match res with
  | .lreturn => decide ((xe y).2.2.2.1 = some .long)
  | .return_ => decide ((xe y).2.2.2.1 = none)
  | .areturn => decide ((xe y).2.2.2.1 = some (.object "OverInDinghy$Club"))
  | .invokestatic q => decide (ht (q / 640) < ht y)
  | .invokevirtual q => decide (ht (q / 640) < ht y)
  | .tableswitch _ lo _ _ => decide (lo ≤ 1000)
  | _ => true
theorem xlm_of {o i q q4 : Nat} (h : (o, i, q, q4) ∈ xlm) : lw_tbl[q4]? = some (Cond.methodLink (cn o) i (xe (q / 640)).1) := xlm_ok _ h
theorem take_rev (st : List Value) (n : Nat) : st = (st.take n).reverse.reverse ++ st.drop n := by simp

theorem xkn0 {G : xG} {m : xM} {k f : Nat} (h : xkn f = 0 ∨ xkn f = 1) : xfv G m k (f / 32) (f % 32) = cv G (.int (m.1 k (f % 32))) := by
  unfold xkn at h
  unfold xfv
  split at h
  · rename_i e; rw [e]; rfl
  · rename_i e; rw [e]; rfl
  · omega
  · omega
theorem xkn2 {G : xG} {m : xM} {k f : Nat} (h : xkn f = 2) : xfv G m k (f / 32) (f % 32) = cv G (.long (m.2 k (f % 32))) := by
  unfold xkn at h
  unfold xfv
  split at h
  · omega
  · omega
  · rename_i e; rw [e]; rfl
  · omega
theorem xkn3 {G : xG} {m : xM} {k f : Nat} (h0 : xkn f = 0 → False) (h1 : xkn f = 1 → False) (h2 : xkn f = 2 → False) : xfv G m k (f / 32) (f % 32) = cv G (.ref (rt k (f % 32))) := by
  unfold xkn at h0 h1 h2
  unfold xfv
  split
  · rename_i e; rw [e] at h0; exact absurd rfl h0
  · rename_i e; rw [e] at h1; exact absurd rfl h1
  · rename_i e; rw [e] at h2; exact absurd rfl h2
  · rfl
theorem xknI {f : Nat} (h : xkn f = 0) : xty (f / 32) (f % 32) = .int := by
  unfold xkn at h
  split at h
  · assumption
  · omega
  · omega
  · omega
theorem xknZ {f : Nat} (h : xkn f = 1) : xty (f / 32) (f % 32) = .boolean := by
  unfold xkn at h
  split at h
  · omega
  · assumption
  · omega
  · omega
theorem xknL {f : Nat} (h : xkn f = 2) : xty (f / 32) (f % 32) = .long := by
  unfold xkn at h
  split at h
  · omega
  · omega
  · assumption
  · omega
theorem swt_mono {x : Int32} {P P' : Int → Prop} (hP : ∀ t, P t → P' t) : ∀ {l : List Int} {d lo : Int}, swt x P d lo l → swt x P' d lo l
  | [], _, _, h => hP _ h
  | _ :: _, _, _, h => ⟨fun q => hP _ (h.1 q), fun q => swt_mono hP (h.2 q)⟩
theorem step {G : xG} {y : Nat} {Q : xQt} {pc : Nat} {ls st : List Value} {m : xM} {raw res : Instr} {len : Nat} (hn : ls.length ≤ (xe y).2.2.1) (hd : decode (xe y).2.1 pc = .ok (raw, len)) (hr : res ∈ rsv (xe y).2.2.2.2.1 pc len raw) (hc : ckc y res = true) (h : ex (fun ls st m => ls.length ≤ (xe y).2.2.1 → VK G y Q (pc + len) ls st m) (fun t ls st m => ls.length ≤ (xe y).2.2.1 → VK G y Q t.toNat ls st m) Q (xe y).2.2.2.1 (Tri G) res ls st m) : VK G y Q pc ls st m := by
  match raw, hd, hr with
  | .iadd, hd, hr =>
    obtain ⟨e1, rfl⟩ := gd_of hr
    have e1 := eq_of_beq e1
    subst e1
    obtain ⟨b, st, rfl, h⟩ := p_i_of h
    obtain ⟨a, st, rfl, h⟩ := p_i_of h
    exact k_iadd hd (h hn)
  | .isub, hd, hr =>
    obtain ⟨e1, rfl⟩ := gd_of hr
    have e1 := eq_of_beq e1
    subst e1
    obtain ⟨b, st, rfl, h⟩ := p_i_of h
    obtain ⟨a, st, rfl, h⟩ := p_i_of h
    exact k_isub hd (h hn)
  | .imul, hd, hr =>
    obtain ⟨e1, rfl⟩ := gd_of hr
    have e1 := eq_of_beq e1
    subst e1
    obtain ⟨b, st, rfl, h⟩ := p_i_of h
    obtain ⟨a, st, rfl, h⟩ := p_i_of h
    exact k_imul hd (h hn)
  | .iand, hd, hr =>
    obtain ⟨e1, rfl⟩ := gd_of hr
    have e1 := eq_of_beq e1
    subst e1
    obtain ⟨b, st, rfl, h⟩ := p_i_of h
    obtain ⟨a, st, rfl, h⟩ := p_i_of h
    exact k_iand hd (h hn)
  | .ior, hd, hr =>
    obtain ⟨e1, rfl⟩ := gd_of hr
    have e1 := eq_of_beq e1
    subst e1
    obtain ⟨b, st, rfl, h⟩ := p_i_of h
    obtain ⟨a, st, rfl, h⟩ := p_i_of h
    exact k_ior hd (h hn)
  | .ixor, hd, hr =>
    obtain ⟨e1, rfl⟩ := gd_of hr
    have e1 := eq_of_beq e1
    subst e1
    obtain ⟨b, st, rfl, h⟩ := p_i_of h
    obtain ⟨a, st, rfl, h⟩ := p_i_of h
    exact k_ixor hd (h hn)
  | .ishl, hd, hr =>
    obtain ⟨e1, rfl⟩ := gd_of hr
    have e1 := eq_of_beq e1
    subst e1
    obtain ⟨b, st, rfl, h⟩ := p_i_of h
    obtain ⟨a, st, rfl, h⟩ := p_i_of h
    exact k_ishl hd (h hn)
  | .ishr, hd, hr =>
    obtain ⟨e1, rfl⟩ := gd_of hr
    have e1 := eq_of_beq e1
    subst e1
    obtain ⟨b, st, rfl, h⟩ := p_i_of h
    obtain ⟨a, st, rfl, h⟩ := p_i_of h
    exact k_ishr hd (h hn)
  | .idiv, hd, hr =>
    obtain ⟨e1, rfl⟩ := gd_of hr
    have e1 := eq_of_beq e1
    subst e1
    obtain ⟨b, st, rfl, h⟩ := p_i_of h
    obtain ⟨a, st, rfl, h⟩ := p_i_of h
    exact k_idiv hd h.1 (h.2 hn)
  | .irem, hd, hr =>
    obtain ⟨e1, rfl⟩ := gd_of hr
    have e1 := eq_of_beq e1
    subst e1
    obtain ⟨b, st, rfl, h⟩ := p_i_of h
    obtain ⟨a, st, rfl, h⟩ := p_i_of h
    exact k_irem hd h.1 (h.2 hn)
  | .ineg, hd, hr =>
    obtain ⟨e1, rfl⟩ := gd_of hr
    have e1 := eq_of_beq e1
    subst e1
    obtain ⟨a, st, rfl, h⟩ := p_i_of h
    exact k_ineg hd (h hn)
  | .ladd, hd, hr =>
    obtain ⟨e1, rfl⟩ := gd_of hr
    have e1 := eq_of_beq e1
    subst e1
    obtain ⟨b, st, rfl, h⟩ := p_l_of h
    obtain ⟨a, st, rfl, h⟩ := p_l_of h
    exact k_ladd hd (h hn)
  | .lsub, hd, hr =>
    obtain ⟨e1, rfl⟩ := gd_of hr
    have e1 := eq_of_beq e1
    subst e1
    obtain ⟨b, st, rfl, h⟩ := p_l_of h
    obtain ⟨a, st, rfl, h⟩ := p_l_of h
    exact k_lsub hd (h hn)
  | .lmul, hd, hr =>
    obtain ⟨e1, rfl⟩ := gd_of hr
    have e1 := eq_of_beq e1
    subst e1
    obtain ⟨b, st, rfl, h⟩ := p_l_of h
    obtain ⟨a, st, rfl, h⟩ := p_l_of h
    exact k_lmul hd (h hn)
  | .land, hd, hr =>
    obtain ⟨e1, rfl⟩ := gd_of hr
    have e1 := eq_of_beq e1
    subst e1
    obtain ⟨b, st, rfl, h⟩ := p_l_of h
    obtain ⟨a, st, rfl, h⟩ := p_l_of h
    exact k_land hd (h hn)
  | .lor, hd, hr =>
    obtain ⟨e1, rfl⟩ := gd_of hr
    have e1 := eq_of_beq e1
    subst e1
    obtain ⟨b, st, rfl, h⟩ := p_l_of h
    obtain ⟨a, st, rfl, h⟩ := p_l_of h
    exact k_lor hd (h hn)
  | .lcmp, hd, hr =>
    obtain ⟨e1, rfl⟩ := gd_of hr
    have e1 := eq_of_beq e1
    subst e1
    obtain ⟨b, st, rfl, h⟩ := p_l_of h
    obtain ⟨a, st, rfl, h⟩ := p_l_of h
    exact k_lcmp hd (h hn)
  | .ldiv, hd, hr =>
    obtain ⟨e1, rfl⟩ := gd_of hr
    have e1 := eq_of_beq e1
    subst e1
    obtain ⟨b, st, rfl, h⟩ := p_l_of h
    obtain ⟨a, st, rfl, h⟩ := p_l_of h
    exact k_ldiv hd h.1 (h.2 hn)
  | .lrem, hd, hr =>
    obtain ⟨e1, rfl⟩ := gd_of hr
    have e1 := eq_of_beq e1
    subst e1
    obtain ⟨b, st, rfl, h⟩ := p_l_of h
    obtain ⟨a, st, rfl, h⟩ := p_l_of h
    exact k_lrem hd h.1 (h.2 hn)
  | .lneg, hd, hr =>
    obtain ⟨e1, rfl⟩ := gd_of hr
    have e1 := eq_of_beq e1
    subst e1
    obtain ⟨a, st, rfl, h⟩ := p_l_of h
    exact k_lneg hd (h hn)
  | .lshl, hd, hr =>
    obtain ⟨e1, rfl⟩ := gd_of hr
    have e1 := eq_of_beq e1
    subst e1
    obtain ⟨b, st, rfl, h⟩ := p_i_of h
    obtain ⟨a, st, rfl, h⟩ := p_l_of h
    exact k_lshl hd (h hn)
  | .lshr, hd, hr =>
    obtain ⟨e1, rfl⟩ := gd_of hr
    have e1 := eq_of_beq e1
    subst e1
    obtain ⟨b, st, rfl, h⟩ := p_i_of h
    obtain ⟨a, st, rfl, h⟩ := p_l_of h
    exact k_lshr hd (h hn)
  | .i2l, hd, hr =>
    obtain ⟨e1, rfl⟩ := gd_of hr
    have e1 := eq_of_beq e1
    subst e1
    obtain ⟨a, st, rfl, h⟩ := p_i_of h
    exact k_i2l hd (h hn)
  | .i2b, hd, hr =>
    obtain ⟨e1, rfl⟩ := gd_of hr
    have e1 := eq_of_beq e1
    subst e1
    obtain ⟨a, st, rfl, h⟩ := p_i_of h
    exact k_i2b hd (h hn)
  | .i2s, hd, hr =>
    obtain ⟨e1, rfl⟩ := gd_of hr
    have e1 := eq_of_beq e1
    subst e1
    obtain ⟨a, st, rfl, h⟩ := p_i_of h
    exact k_i2s hd (h hn)
  | .i2c, hd, hr =>
    obtain ⟨e1, rfl⟩ := gd_of hr
    have e1 := eq_of_beq e1
    subst e1
    obtain ⟨a, st, rfl, h⟩ := p_i_of h
    exact k_i2c hd (h hn)
  | .pop, hd, hr =>
    obtain ⟨e1, rfl⟩ := gd_of hr
    have e1 := eq_of_beq e1
    subst e1
    obtain ⟨a, st, rfl, h⟩ := p_i_of h
    exact k_pop hd (h hn)
  | .l2i, hd, hr =>
    obtain ⟨e1, rfl⟩ := gd_of hr
    have e1 := eq_of_beq e1
    subst e1
    obtain ⟨a, st, rfl, h⟩ := p_l_of h
    exact k_l2i hd (h hn)
  | .dup, hd, hr =>
    obtain ⟨e1, rfl⟩ := gd_of hr
    have e1 := eq_of_beq e1
    subst e1
    match st, h with
    | .int x :: st, h => exact k_dupi hd (h hn)
    | .ref x :: st, h => exact k_dupr hd (h hn)
  | .dup2, hd, hr =>
    obtain ⟨e1, rfl⟩ := gd_of hr
    have e1 := eq_of_beq e1
    subst e1
    obtain ⟨b, st, rfl, h⟩ := p_i_of h
    obtain ⟨a, st, rfl, h⟩ := p_r_of h
    exact k_dup2 hd (h hn)
  | .iastore, hd, hr =>
    obtain ⟨e1, rfl⟩ := gd_of hr
    have e1 := eq_of_beq e1
    subst e1
    obtain ⟨v, st, rfl, h⟩ := p_i_of h
    obtain ⟨i, st, rfl, h⟩ := p_i_of h
    obtain ⟨k, st, rfl, h⟩ := p_r_of h
    exact k_iast h.1 h.2.1 hd (h.2.2 hn)
  | .ireturn, hd, hr =>
    obtain ⟨e1, rfl⟩ := gd_of hr
    have e1 := eq_of_beq e1
    subst e1
    match st, h with
    | [.int v], h => exact k_iret h.1 hd h.2
  | .lreturn, hd, hr =>
    obtain ⟨e1, rfl⟩ := gd_of hr
    have e1 := eq_of_beq e1
    subst e1
    match st, h with
    | [.long v], h => exact k_lret (by simpa [ckc] using hc) hd h
  | .areturn, hd, hr =>
    obtain ⟨e1, rfl⟩ := gd_of hr
    have e1 := eq_of_beq e1
    subst e1
    match st, h with
    | [.ref v], h => exact k_aret (by simpa [ckc] using hc) hd h
  | .return_, hd, hr =>
    obtain ⟨e1, rfl⟩ := gd_of hr
    have e1 := eq_of_beq e1
    subst e1
    match st, h with
    | [], h => exact k_vret (by simpa [ckc] using hc) hd h
  | .iconst n, hd, hr =>
    obtain ⟨e1, rfl⟩ := gd_of hr
    have e1 := eq_of_beq e1
    subst e1
    exact k_iconst hd (h hn)
  | .bipush n, hd, hr =>
    obtain ⟨e1, rfl⟩ := gd_of hr
    rw [Bool.and_eq_true] at e1
    obtain ⟨e1, e2⟩ := e1
    have e1 := eq_of_beq e1
    have e2 := of_decide_eq_true e2
    subst e1
    exact k_bipush hd e2 (h hn)
  | .sipush n, hd, hr =>
    obtain ⟨e1, rfl⟩ := gd_of hr
    rw [Bool.and_eq_true] at e1
    obtain ⟨e1, e2⟩ := e1
    have e1 := eq_of_beq e1
    have e2 := of_decide_eq_true e2
    subst e1
    exact k_sipush hd e2 (h hn)
  | .lconst n, hd, hr =>
    obtain ⟨e1, rfl⟩ := gd_of hr
    rw [Bool.and_eq_true] at e1
    obtain ⟨e1, e2⟩ := e1
    have e1 := eq_of_beq e1
    have e2 := of_decide_eq_true e2
    subst e1
    exact k_lconst hd e2 (h hn)
  | .iload_n k, hd, hr =>
    obtain ⟨e1, rfl⟩ := gd_of hr
    have e1 := eq_of_beq e1
    subst e1
    obtain ⟨x, h1, h⟩ := ldI_of h
    exact k_iload_n hd h1 (h hn)
  | .iload k, hd, hr =>
    obtain ⟨e1, rfl⟩ := gd_of hr
    have e1 := eq_of_beq e1
    subst e1
    obtain ⟨x, h1, h⟩ := ldI_of h
    exact k_iload hd h1 (h hn)
  | .lload_n k, hd, hr =>
    obtain ⟨e1, rfl⟩ := gd_of hr
    have e1 := eq_of_beq e1
    subst e1
    obtain ⟨x, h1, h⟩ := ldL_of h
    exact k_lload_n hd h1 (h hn)
  | .lload k, hd, hr =>
    obtain ⟨e1, rfl⟩ := gd_of hr
    have e1 := eq_of_beq e1
    subst e1
    obtain ⟨x, h1, h⟩ := ldL_of h
    exact k_lload hd h1 (h hn)
  | .aload_n k, hd, hr =>
    obtain ⟨e1, rfl⟩ := gd_of hr
    have e1 := eq_of_beq e1
    subst e1
    obtain ⟨x, h1, h⟩ := ldR_of h
    exact k_aload_n hd h1 (h hn)
  | .aload k, hd, hr =>
    obtain ⟨e1, rfl⟩ := gd_of hr
    have e1 := eq_of_beq e1
    subst e1
    obtain ⟨x, h1, h⟩ := ldR_of h
    exact k_aload hd h1 (h hn)
  | .istore_n k, hd, hr =>
    obtain ⟨e1, rfl⟩ := gd_of hr
    have e1 := eq_of_beq e1
    subst e1
    obtain ⟨x, st, rfl, h⟩ := p_i_of h
    exact k_istore_n hn hd h.1 (h.2 (by simpa using hn))
  | .istore k, hd, hr =>
    obtain ⟨e1, rfl⟩ := gd_of hr
    have e1 := eq_of_beq e1
    subst e1
    obtain ⟨x, st, rfl, h⟩ := p_i_of h
    exact k_istore hn hd h.1 (h.2 (by simpa using hn))
  | .astore_n k, hd, hr =>
    obtain ⟨e1, rfl⟩ := gd_of hr
    have e1 := eq_of_beq e1
    subst e1
    obtain ⟨x, st, rfl, h⟩ := p_r_of h
    exact k_astore_n hn hd h.1 (h.2 (by simpa using hn))
  | .astore k, hd, hr =>
    obtain ⟨e1, rfl⟩ := gd_of hr
    have e1 := eq_of_beq e1
    subst e1
    obtain ⟨x, st, rfl, h⟩ := p_r_of h
    exact k_astore hn hd h.1 (h.2 (by simpa using hn))
  | .lstore_n k, hd, hr =>
    obtain ⟨e1, rfl⟩ := gd_of hr
    have e1 := eq_of_beq e1
    subst e1
    obtain ⟨x, st, rfl, h⟩ := p_l_of h
    exact k_lstore_n hn hd h.1 h.2.1 (h.2.2 (by simpa using hn))
  | .lstore k, hd, hr =>
    obtain ⟨e1, rfl⟩ := gd_of hr
    have e1 := eq_of_beq e1
    subst e1
    obtain ⟨x, st, rfl, h⟩ := p_l_of h
    exact k_lstore hn hd h.1 h.2.1 (h.2.2 (by simpa using hn))
  | .iinc k n, hd, hr =>
    obtain ⟨e1, rfl⟩ := gd_of hr
    have e1 := eq_of_beq e1
    subst e1
    obtain ⟨x, h1, h⟩ := ldI_of h
    exact k_iinc hn hd h1 h.1 (h.2 (by simpa using hn))
  | .ldc i, hd, hr =>
    rcases List.mem_append.mp hr with hr | hr
    · obtain ⟨e1, hr1⟩ := gdl_of hr
      have e1 := eq_of_beq e1
      subst e1
      obtain ⟨⟨o1, i1, n1, q1⟩, hm, hr2⟩ := List.mem_filterMap.mp hr1
      clear hr1 hr
      split at hr2
      · rename_i hq
        obtain ⟨rfl, rfl⟩ := hq
        cases hr2
        exact k_ldc hd (xlc_ok _ hm) (h hn)
      · cases hr2
    · obtain ⟨e1, hr1⟩ := gdl_of hr
      rw [Bool.and_eq_true] at e1
      obtain ⟨e1, e2⟩ := e1
      have e1 := eq_of_beq e1
      have e2 := eq_of_beq e2
      subst e1
      obtain ⟨j, hj, hr2⟩ := List.mem_filterMap.mp hr1
      split at hr2
      · rename_i hq
        subst hq
        cases hr2
        exact k_ldcs (List.mem_range.mp hj) e2 hd (h hn)
      · cases hr2
  | .ldc_w i, hd, hr =>
    obtain ⟨e1, hr1⟩ := gdl_of hr
    have e1 := eq_of_beq e1
    subst e1
    obtain ⟨⟨o1, i1, n1, q1⟩, hm, hr2⟩ := List.mem_filterMap.mp hr1
    clear hr1 hr
    split at hr2
    · rename_i hq
      obtain ⟨rfl, rfl⟩ := hq
      cases hr2
      exact k_ldc_w hd (xlc_ok _ hm) (h hn)
    · cases hr2
  | .ldc2_w i, hd, hr =>
    obtain ⟨e1, hr1⟩ := gdl_of hr
    have e1 := eq_of_beq e1
    subst e1
    obtain ⟨⟨o1, i1, n1, q1⟩, hm, hr2⟩ := List.mem_filterMap.mp hr1
    clear hr1 hr
    split at hr2
    · rename_i hq
      obtain ⟨rfl, rfl⟩ := hq
      cases hr2
      exact k_ldc2 hd (xll_ok _ hm) (h hn)
    · cases hr2
  | .getfield i, hd, hr =>
    rcases List.mem_append.mp hr with hr | hr
    · rcases List.mem_append.mp hr with hr | hr
      · obtain ⟨e1, hr1⟩ := gdl_of hr
        have e1 := eq_of_beq e1
        subst e1
        obtain ⟨⟨o1, i1, n1, q1⟩, hm, hr2⟩ := List.mem_filterMap.mp hr1
        clear hr1 hr
        split at hr2
        · rename_i hq
          obtain ⟨rfl, rfl⟩ := hq
          have hkd : ∃ kk, xkn n1 = kk := ⟨_, rfl⟩
          simp only at hr2
          split at hr2
          · rename_i hk0
            cases hr2
            obtain ⟨k, st, rfl, h⟩ := p_r_of h
            exact k_get (v := .int (m.1 k (n1 % 32))) hm h.1 (xkn0 (Or.inl hk0)) hd (h.2 hn)
          · rename_i hk0
            cases hr2
            obtain ⟨k, st, rfl, h⟩ := p_r_of h
            exact k_get (v := .int (m.1 k (n1 % 32))) hm h.1 (xkn0 (Or.inr hk0)) hd (h.2 hn)
          · rename_i hk0
            cases hr2
            obtain ⟨k, st, rfl, h⟩ := p_r_of h
            exact k_get (v := .long (m.2 k (n1 % 32))) hm h.1 (xkn2 hk0) hd (h.2 hn)
          · rename_i hk0 hk1 hk2
            cases hr2
            obtain ⟨k, st, rfl, h⟩ := p_r_of h
            exact k_get (v := .ref (rt k (n1 % 32))) hm h.1 (xkn3 hk0 hk1 hk2) hd (h.2 hn)
        · cases hr2
      · obtain ⟨e1, rfl⟩ := gd_of hr
        simp only [Bool.and_eq_true, beq_iff_eq] at e1
        obtain ⟨⟨rfl, e2⟩, rfl⟩ := e1
        obtain ⟨k, st, rfl, h⟩ := p_r_of h
        exact k_strv h.1 e2 hd (h.2 hn)
    · obtain ⟨e1, rfl⟩ := gd_of hr
      simp only [Bool.and_eq_true, beq_iff_eq] at e1
      obtain ⟨⟨rfl, e2⟩, rfl⟩ := e1
      obtain ⟨k, st, rfl, h⟩ := p_r_of h
      exact k_strc h.1 e2 hd (h.2 hn)
  | .putfield i, hd, hr =>
    obtain ⟨e1, hr1⟩ := gdl_of hr
    have e1 := eq_of_beq e1
    subst e1
    obtain ⟨⟨o1, i1, n1, q1⟩, hm, hr2⟩ := List.mem_filterMap.mp hr1
    clear hr1 hr
    split at hr2
    · rename_i hq
      obtain ⟨rfl, rfl, hf⟩ := hq
      simp only at hr2
      split at hr2
      · rename_i hk0
        cases hr2
        obtain ⟨v, st, rfl, h⟩ := p_i_of h
        obtain ⟨k, st, rfl, h⟩ := p_r_of h
        exact k_puti hm hf h.1 (xknI hk0) hd (h.2 hn)
      · rename_i hk0
        cases hr2
        obtain ⟨v, st, rfl, h⟩ := p_i_of h
        obtain ⟨k, st, rfl, h⟩ := p_r_of h
        exact k_putz h.2.1 hm hf h.1 (xknZ hk0) hd (h.2.2 hn)
      · rename_i hk0
        cases hr2
        obtain ⟨v, st, rfl, h⟩ := p_l_of h
        obtain ⟨k, st, rfl, h⟩ := p_r_of h
        exact k_putl hm hf h.1 (xknL hk0) hd (h.2 hn)
      · cases hr2
    · cases hr2
  | .getstatic i, hd, hr =>
    rcases List.mem_append.mp hr with hr | hr
    · rcases List.mem_append.mp hr with hr | hr
      · rcases List.mem_append.mp hr with hr | hr
        · rcases List.mem_append.mp hr with hr | hr
          · obtain ⟨e1, rfl⟩ := gd_of hr
            simp only [Bool.and_eq_true, beq_iff_eq] at e1
            obtain ⟨⟨rfl, e2⟩, rfl⟩ := e1
            exact k_gets (j := 0) (by omega) e2 xs0 hd (h hn)
          · obtain ⟨e1, rfl⟩ := gd_of hr
            simp only [Bool.and_eq_true, beq_iff_eq] at e1
            obtain ⟨⟨rfl, e2⟩, rfl⟩ := e1
            exact k_gets (j := 1) (by omega) e2 xs1 hd (h hn)
        · obtain ⟨e1, rfl⟩ := gd_of hr
          simp only [Bool.and_eq_true, beq_iff_eq] at e1
          obtain ⟨⟨rfl, e2⟩, rfl⟩ := e1
          exact k_gets (j := 2) (by omega) e2 xs2 hd (h hn)
      · obtain ⟨e1, rfl⟩ := gd_of hr
        simp only [Bool.and_eq_true, beq_iff_eq] at e1
        obtain ⟨⟨rfl, e2⟩, rfl⟩ := e1
        exact k_getc e2 hd (h hn)
    · obtain ⟨e1, rfl⟩ := gd_of hr
      simp only [Bool.and_eq_true, beq_iff_eq] at e1
      obtain ⟨⟨rfl, e2⟩, rfl⟩ := e1
      exact k_getf0 e2 hd (h hn)
  | .invokestatic i, hd, hr =>
    rcases List.mem_append.mp hr with hr | hr
    · rcases List.mem_append.mp hr with hr | hr
      · rcases List.mem_append.mp hr with hr | hr
        · obtain ⟨e1, hr1⟩ := gdl_of hr
          have e1 := eq_of_beq e1
          subst e1
          obtain ⟨⟨o1, i1, n1, q1⟩, hm, hr2⟩ := List.mem_filterMap.mp hr1
          clear hr1 hr
          split at hr2
          · rename_i hq
            obtain ⟨rfl, rfl, hf⟩ := hq
            cases hr2
            obtain ⟨h1, h2, h3⟩ := h
            obtain ⟨g1, g2, g3⟩ := xlm_n _ hm
            simp only at g1 g2 g3 hf h1
            rw [take_rev st (n1 / 64 % 10)]
            exact k_calls (xlm_of hm) hf (by rw [List.length_reverse, List.length_take]; omega) (by simpa [ckc] using hc) h2 hd h3 (fun r m' q => q hn)
          · cases hr2
        · obtain ⟨e1, hr1⟩ := gdl_of hr
          have e1 := eq_of_beq e1
          subst e1
          obtain ⟨⟨o1, i1, q1⟩, hm, hr2⟩ := List.mem_filterMap.mp hr1
          clear hr1 hr
          split at hr2
          · rename_i hq
            obtain ⟨rfl, rfl⟩ := hq
            cases hr2
            obtain ⟨n, st, rfl, h⟩ := p_i_of h
            obtain ⟨dp, st, rfl, h⟩ := p_i_of h
            obtain ⟨b, st, rfl, h⟩ := p_r_of h
            obtain ⟨sp, st, rfl, h⟩ := p_i_of h
            obtain ⟨a, st, rfl, h⟩ := p_r_of h
            obtain ⟨h4, ha, hb, h1, h2, h3, h5, h6, h⟩ := h
            exact k_copy hm h4 ha hb h1 h2 h3 h5 h6 hd (h hn)
          · cases hr2
      · obtain ⟨e1, hr1⟩ := gdl_of hr
        have e1 := eq_of_beq e1
        subst e1
        obtain ⟨⟨o1, i1, q1⟩, hm, hr2⟩ := List.mem_filterMap.mp hr1
        clear hr1 hr
        split at hr2
        · rename_i hq
          obtain ⟨rfl, rfl⟩ := hq
          cases hr2
          obtain ⟨b, st, rfl, h⟩ := p_i_of h
          obtain ⟨a, st, rfl, h⟩ := p_i_of h
          exact k_max hm h.1 hd (h.2 hn)
        · cases hr2
    · obtain ⟨e1, hr1⟩ := gdl_of hr
      have e1 := eq_of_beq e1
      subst e1
      obtain ⟨⟨o1, i1, q1⟩, hm, hr2⟩ := List.mem_filterMap.mp hr1
      clear hr1 hr
      split at hr2
      · rename_i hq
        obtain ⟨rfl, rfl⟩ := hq
        cases hr2
        obtain ⟨b, st, rfl, h⟩ := p_i_of h
        obtain ⟨a, st, rfl, h⟩ := p_i_of h
        exact k_min hm h.1 hd (h.2 hn)
      · cases hr2
  | .invokevirtual i, hd, hr =>
    obtain ⟨e1, hr1⟩ := gdl_of hr
    have e1 := eq_of_beq e1
    subst e1
    obtain ⟨⟨o1, i1, n1, q1⟩, hm, hr2⟩ := List.mem_filterMap.mp hr1
    clear hr1 hr
    split at hr2
    · rename_i hq
      obtain ⟨rfl, rfl, hf⟩ := hq
      cases hr2
      obtain ⟨h1, h2, h4, h3⟩ := h
      obtain ⟨g1, g2, g3⟩ := xlm_n _ hm
      simp only at g1 g2 g3 hf h1
      obtain ⟨o, as, hst, hsh⟩ := p_r_of h4
      have hst2 := take_rev st (n1 / 64 % 10)
      have hlen : (st.take (n1 / 64 % 10)).reverse.length = n1 / 64 % 10 := by rw [List.length_reverse, List.length_take]; omega
      rw [hst] at hst2 h3 hlen
      simp only [List.reverse_cons, List.append_assoc, List.singleton_append] at hst2
      simp only [List.length_cons] at hlen
      have hcl := g3 hf
      rw [hst2]
      refine k_callv (o := o) (xlm_of hm) hf ?_ (by omega) (by simpa [ckc] using hc) h2 hd h3 (fun r m' q => q hn)
      simp only at hsh hcl
      rcases hcl with ⟨c1, c2⟩ | ⟨c1, c2⟩
      · exact Or.inl ⟨hsh.trans c1, c2⟩
      · right
        cases hx : xcl[n1 % 64 - 3]? with
        | none => rw [hx] at c1; simp at c1
        | some q => rw [hx] at c1; exact ⟨n1 % 64 - 3, q, by rw [hsh]; omega, hx, by simpa using c1⟩
    · cases hr2
  | .iaload, hd, hr =>
    rcases List.mem_append.mp hr with hr | hr
    · obtain ⟨e1, rfl⟩ := gd_of hr
      have e1 := eq_of_beq e1
      subst e1
      obtain ⟨i, st, rfl, h⟩ := p_i_of h
      obtain ⟨k, st, rfl, h⟩ := p_r_of h
      exact k_iald h.1 h.2.1 hd (h.2.2 hn)
    · obtain ⟨e1, rfl⟩ := gd_of hr
      have e1 := eq_of_beq e1
      subst e1
      obtain ⟨i, st, rfl, h⟩ := p_i_of h
      obtain ⟨k, st, rfl, h⟩ := p_r_of h
      exact k_ialdX h.1 h.2.1 hd (h.2.2 hn)
  | .baload, hd, hr =>
    rcases List.mem_append.mp hr with hr | hr
    · rcases List.mem_append.mp hr with hr | hr
      · obtain ⟨e1, rfl⟩ := gd_of hr
        have e1 := eq_of_beq e1
        subst e1
        obtain ⟨i, st, rfl, h⟩ := p_i_of h
        obtain ⟨k, st, rfl, h⟩ := p_r_of h
        exact k_bald h.1 h.2.1 hd (h.2.2 hn)
      · obtain ⟨e1, rfl⟩ := gd_of hr
        have e1 := eq_of_beq e1
        subst e1
        obtain ⟨i, st, rfl, h⟩ := p_i_of h
        obtain ⟨k, st, rfl, h⟩ := p_r_of h
        exact k_baldX h.1 h.2.1 hd (h.2.2 hn)
    · obtain ⟨e1, rfl⟩ := gd_of hr
      have e1 := eq_of_beq e1
      subst e1
      obtain ⟨i, st, rfl, h⟩ := p_i_of h
      obtain ⟨k, st, rfl, h⟩ := p_r_of h
      exact k_zald h.1 h.2.1 hd (h.2.2 hn)
  | .bastore, hd, hr =>
    rcases List.mem_append.mp hr with hr | hr
    · obtain ⟨e1, rfl⟩ := gd_of hr
      have e1 := eq_of_beq e1
      subst e1
      obtain ⟨v, st, rfl, h⟩ := p_i_of h
      obtain ⟨i, st, rfl, h⟩ := p_i_of h
      obtain ⟨k, st, rfl, h⟩ := p_r_of h
      exact k_bast h.1 h.2.1 hd (h.2.2 hn)
    · obtain ⟨e1, rfl⟩ := gd_of hr
      have e1 := eq_of_beq e1
      subst e1
      obtain ⟨v, st, rfl, h⟩ := p_i_of h
      obtain ⟨i, st, rfl, h⟩ := p_i_of h
      obtain ⟨k, st, rfl, h⟩ := p_r_of h
      exact k_zast h.2.2.1 h.1 h.2.1 hd (h.2.2.2 hn)
  | .arraylength, hd, hr =>
    rcases List.mem_append.mp hr with hr | hr
    · obtain ⟨e1, rfl⟩ := gd_of hr
      have e1 := eq_of_beq e1
      subst e1
      obtain ⟨k, st, rfl, h⟩ := p_r_of h
      exact k_alen h.1 hd (h.2 hn)
    · obtain ⟨e1, rfl⟩ := gd_of hr
      have e1 := eq_of_beq e1
      subst e1
      obtain ⟨k, st, rfl, h⟩ := p_r_of h
      exact k_alenX h.1 hd (h.2 hn)
  | .goto t, hd, hr =>
    obtain ⟨e1, rfl⟩ := gd_of hr
    rw [Bool.and_eq_true] at e1
    obtain ⟨e1, e2⟩ := e1
    have e1 := eq_of_beq e1
    have e2 := of_decide_eq_true e2
    subst e1
    exact k_goto hd e2 (h hn)
  | .ifCond .eq t, hd, hr =>
    obtain ⟨e1, rfl⟩ := gd_of hr
    rw [Bool.and_eq_true] at e1
    obtain ⟨e1, e2⟩ := e1
    have e1 := eq_of_beq e1
    have e2 := of_decide_eq_true e2
    subst e1
    obtain ⟨x, st, rfl, h⟩ := p_i_of h
    exact k_if_eq hd e2 (fun q => h.1 q hn) (fun q => h.2 q hn)
  | .if_icmp .eq t, hd, hr =>
    obtain ⟨e1, rfl⟩ := gd_of hr
    rw [Bool.and_eq_true] at e1
    obtain ⟨e1, e2⟩ := e1
    have e1 := eq_of_beq e1
    have e2 := of_decide_eq_true e2
    subst e1
    obtain ⟨y9, st, rfl, h⟩ := p_i_of h
    obtain ⟨x, st, rfl, h⟩ := p_i_of h
    exact k_icmp_eq hd e2 (fun q => h.1 q hn) (fun q => h.2 q hn)
  | .ifCond .ne t, hd, hr =>
    obtain ⟨e1, rfl⟩ := gd_of hr
    rw [Bool.and_eq_true] at e1
    obtain ⟨e1, e2⟩ := e1
    have e1 := eq_of_beq e1
    have e2 := of_decide_eq_true e2
    subst e1
    obtain ⟨x, st, rfl, h⟩ := p_i_of h
    exact k_if_ne hd e2 (fun q => h.2 q hn) (fun q => h.1 q hn)
  | .if_icmp .ne t, hd, hr =>
    obtain ⟨e1, rfl⟩ := gd_of hr
    rw [Bool.and_eq_true] at e1
    obtain ⟨e1, e2⟩ := e1
    have e1 := eq_of_beq e1
    have e2 := of_decide_eq_true e2
    subst e1
    obtain ⟨y9, st, rfl, h⟩ := p_i_of h
    obtain ⟨x, st, rfl, h⟩ := p_i_of h
    exact k_icmp_ne hd e2 (fun q => h.2 q hn) (fun q => h.1 q hn)
  | .ifCond .lt t, hd, hr =>
    obtain ⟨e1, rfl⟩ := gd_of hr
    rw [Bool.and_eq_true] at e1
    obtain ⟨e1, e2⟩ := e1
    have e1 := eq_of_beq e1
    have e2 := of_decide_eq_true e2
    subst e1
    obtain ⟨x, st, rfl, h⟩ := p_i_of h
    exact k_if_lt hd e2 (fun q => h.1 q hn) (fun q => h.2 q hn)
  | .if_icmp .lt t, hd, hr =>
    obtain ⟨e1, rfl⟩ := gd_of hr
    rw [Bool.and_eq_true] at e1
    obtain ⟨e1, e2⟩ := e1
    have e1 := eq_of_beq e1
    have e2 := of_decide_eq_true e2
    subst e1
    obtain ⟨y9, st, rfl, h⟩ := p_i_of h
    obtain ⟨x, st, rfl, h⟩ := p_i_of h
    exact k_icmp_lt hd e2 (fun q => h.1 q hn) (fun q => h.2 q hn)
  | .ifCond .ge t, hd, hr =>
    obtain ⟨e1, rfl⟩ := gd_of hr
    rw [Bool.and_eq_true] at e1
    obtain ⟨e1, e2⟩ := e1
    have e1 := eq_of_beq e1
    have e2 := of_decide_eq_true e2
    subst e1
    obtain ⟨x, st, rfl, h⟩ := p_i_of h
    exact k_if_ge hd e2 (fun q => h.1 q hn) (fun q => h.2 q hn)
  | .if_icmp .ge t, hd, hr =>
    obtain ⟨e1, rfl⟩ := gd_of hr
    rw [Bool.and_eq_true] at e1
    obtain ⟨e1, e2⟩ := e1
    have e1 := eq_of_beq e1
    have e2 := of_decide_eq_true e2
    subst e1
    obtain ⟨y9, st, rfl, h⟩ := p_i_of h
    obtain ⟨x, st, rfl, h⟩ := p_i_of h
    exact k_icmp_ge hd e2 (fun q => h.1 q hn) (fun q => h.2 q hn)
  | .ifCond .gt t, hd, hr =>
    obtain ⟨e1, rfl⟩ := gd_of hr
    rw [Bool.and_eq_true] at e1
    obtain ⟨e1, e2⟩ := e1
    have e1 := eq_of_beq e1
    have e2 := of_decide_eq_true e2
    subst e1
    obtain ⟨x, st, rfl, h⟩ := p_i_of h
    exact k_if_gt hd e2 (fun q => h.1 q hn) (fun q => h.2 q hn)
  | .if_icmp .gt t, hd, hr =>
    obtain ⟨e1, rfl⟩ := gd_of hr
    rw [Bool.and_eq_true] at e1
    obtain ⟨e1, e2⟩ := e1
    have e1 := eq_of_beq e1
    have e2 := of_decide_eq_true e2
    subst e1
    obtain ⟨y9, st, rfl, h⟩ := p_i_of h
    obtain ⟨x, st, rfl, h⟩ := p_i_of h
    exact k_icmp_gt hd e2 (fun q => h.1 q hn) (fun q => h.2 q hn)
  | .ifCond .le t, hd, hr =>
    obtain ⟨e1, rfl⟩ := gd_of hr
    rw [Bool.and_eq_true] at e1
    obtain ⟨e1, e2⟩ := e1
    have e1 := eq_of_beq e1
    have e2 := of_decide_eq_true e2
    subst e1
    obtain ⟨x, st, rfl, h⟩ := p_i_of h
    exact k_if_le hd e2 (fun q => h.1 q hn) (fun q => h.2 q hn)
  | .if_icmp .le t, hd, hr =>
    obtain ⟨e1, rfl⟩ := gd_of hr
    rw [Bool.and_eq_true] at e1
    obtain ⟨e1, e2⟩ := e1
    have e1 := eq_of_beq e1
    have e2 := of_decide_eq_true e2
    subst e1
    obtain ⟨y9, st, rfl, h⟩ := p_i_of h
    obtain ⟨x, st, rfl, h⟩ := p_i_of h
    exact k_icmp_le hd e2 (fun q => h.1 q hn) (fun q => h.2 q hn)
  | .tableswitch d lo hi ts, hd, hr =>
    obtain ⟨e1, rfl⟩ := gd_of hr
    simp only [Bool.and_eq_true, decide_eq_true_eq, List.all_eq_true] at e1
    obtain ⟨⟨⟨⟨e1, e2⟩, e3⟩, e4⟩, e5⟩ := e1
    obtain ⟨x, st, rfl, h⟩ := p_i_of h
    exact k_switch hd e1 e2 e3 e4 e5 (by simpa [ckc] using hc) (swt_mono (fun t q => q hn) h)
/-- a row of resolved instructions that is the method's code -/
def ckl (y : Nat) : List xI → Bool
  | [] => true
  | i :: is => (match decode (xe y).2.1 i.1 with
    | .ok (raw, len) => ((rsv (xe y).2.2.2.2.1 i.1 len raw).any (fun x => decide (x = i.2)) || decide (i.2 = .athrow)) && ckc y i.2 && (match is with | [] => true | j :: _ => j.1 == i.1 + len)
    | .error _ => false) && ckl y is
theorem ckl_of {y : Nat} {i : xI} {is : List xI} (h : ckl y (i :: is) = true) : ∃ raw len, decode (xe y).2.1 i.1 = .ok (raw, len) ∧ (i.2 ∈ rsv (xe y).2.2.2.2.1 i.1 len raw ∨ i.2 = .athrow) ∧ ckc y i.2 = true ∧ (∀ j l, is = j :: l → j.1 = i.1 + len) ∧ ckl y is = true := by
  unfold ckl at h
  rw [Bool.and_eq_true] at h
  obtain ⟨h1, h2⟩ := h
  split at h1
  · rename_i raw len hd
    simp only [Bool.and_eq_true, Bool.or_eq_true, List.any_eq_true, decide_eq_true_eq, exists_eq_right] at h1
    refine ⟨raw, len, hd, h1.1.1, h1.1.2, fun j l e => ?_, h2⟩
    subst e
    simpa using h1.2
  · cases h1
theorem ckl_drop {y : Nat} : ∀ {is : List xI} (n : Nat), ckl y is = true → ckl y (is.drop n) = true
  | [], n, h => by simp [ckl]
  | i :: is, 0, h => h
  | i :: is, n + 1, h => by
    obtain ⟨_, _, _, _, _, _, h⟩ := ckl_of h
    exact ckl_drop n h
theorem ex_mono {nx nx' : List Value → List Value → xM → Prop} {jp jp' : Int → List Value → List Value → xM → Prop} {Q : xQt} {rt0 : Option FieldType} {T T' : Nat → List Value → xM → xQt → Prop} (h1 : ∀ ls st m, nx ls st m → nx' ls st m) (h2 : ∀ t ls st m, jp t ls st m → jp' t ls st m) (h3 : ∀ k as m (Q1 Q2 : xQt), (∀ r m', Q1 r m' → Q2 r m') → T k as m Q1 → T' k as m Q2) (i : Instr) (ls st : List Value) (m : xM) (h : ex nx jp Q rt0 T i ls st m) : ex nx' jp' Q rt0 T' i ls st m := by
  have mi : ∀ {st : List Value} {k k' : Int32 → List Value → Prop}, (∀ x s, k x s → k' x s) → p_i st k → p_i st k' := fun q h => by
    obtain ⟨x, s, rfl, h⟩ := p_i_of h
    exact q x s h
  have ml : ∀ {st : List Value} {k k' : Int64 → List Value → Prop}, (∀ x s, k x s → k' x s) → p_l st k → p_l st k' := fun q h => by
    obtain ⟨x, s, rfl, h⟩ := p_l_of h
    exact q x s h
  have mr : ∀ {st : List Value} {k k' : Nat → List Value → Prop}, (∀ x s, k x s → k' x s) → p_r st k → p_r st k' := fun q h => by
    obtain ⟨x, s, rfl, h⟩ := p_r_of h
    exact q x s h
  have oi : ∀ {ls : List Value} {j : Nat} {k k' : Int32 → Prop}, (∀ x, k x → k' x) → ldI ls j k → ldI ls j k' := fun q h => by
    obtain ⟨x, e, h⟩ := ldI_of h
    unfold ldI; rw [e]
    exact q x h
  have ol : ∀ {ls : List Value} {j : Nat} {k k' : Int64 → Prop}, (∀ x, k x → k' x) → ldL ls j k → ldL ls j k' := fun q h => by
    obtain ⟨x, e, h⟩ := ldL_of h
    unfold ldL; rw [e]
    exact q x h
  have or : ∀ {ls : List Value} {j : Nat} {k k' : Nat → Prop}, (∀ x, k x → k' x) → ldR ls j k → ldR ls j k' := fun q h => by
    obtain ⟨x, e, h⟩ := ldR_of h
    unfold ldR; rw [e]
    exact q x h
  unfold ex at h ⊢
  split at h
  all_goals first
    | exact h1 _ _ _ h
    | exact h2 _ _ _ _ h
    | exact h
    | exact mi (fun _ _ q => h1 _ _ _ q) h
    | exact ml (fun _ _ q => h1 _ _ _ q) h
    | exact mr (fun _ _ q => h1 _ _ _ q) h
    | exact oi (fun _ q => h1 _ _ _ q) h
    | exact ol (fun _ q => h1 _ _ _ q) h
    | exact or (fun _ q => h1 _ _ _ q) h
    | exact oi (fun _ q => ⟨q.1, h1 _ _ _ q.2⟩) h
    | exact mi (fun _ _ q => ⟨q.1, h1 _ _ _ q.2⟩) h
    | exact mr (fun _ _ q => ⟨q.1, h1 _ _ _ q.2⟩) h
    | exact ml (fun _ _ q => ⟨q.1, q.2.1, h1 _ _ _ q.2.2⟩) h
    | exact mi (fun _ _ q => mi (fun _ _ q => h1 _ _ _ q) q) h
    | exact ml (fun _ _ q => ml (fun _ _ q => h1 _ _ _ q) q) h
    | exact mi (fun _ _ q => ml (fun _ _ q => h1 _ _ _ q) q) h
    | exact mi (fun _ _ q => mr (fun _ _ q => h1 _ _ _ q) q) h
    | exact mi (fun _ _ q => mi (fun _ _ q => ⟨q.1, h1 _ _ _ q.2⟩) q) h
    | exact ml (fun _ _ q => ml (fun _ _ q => ⟨q.1, h1 _ _ _ q.2⟩) q) h
    | exact mi (fun _ _ q => ⟨fun z => h2 _ _ _ _ (q.1 z), fun z => h1 _ _ _ (q.2 z)⟩) h
    | exact mi (fun _ _ q => ⟨fun z => h1 _ _ _ (q.1 z), fun z => h2 _ _ _ _ (q.2 z)⟩) h
    | exact mi (fun _ _ q => mi (fun _ _ q => ⟨fun z => h2 _ _ _ _ (q.1 z), fun z => h1 _ _ _ (q.2 z)⟩) q) h
    | exact mi (fun _ _ q => mi (fun _ _ q => ⟨fun z => h1 _ _ _ (q.1 z), fun z => h2 _ _ _ _ (q.2 z)⟩) q) h
    | exact mi (fun _ _ q => swt_mono (fun _ z => h2 _ _ _ _ z) q) h
    | exact mi (fun _ _ q => mr (fun _ _ q => ⟨q.1, h1 _ _ _ q.2⟩) q) h
    | exact ml (fun _ _ q => mr (fun _ _ q => ⟨q.1, h1 _ _ _ q.2⟩) q) h
    | exact mi (fun _ _ q => mr (fun _ _ q => ⟨q.1, q.2.1, h1 _ _ _ q.2.2⟩) q) h
    | exact mi (fun _ _ q => mi (fun _ _ q => mr (fun _ _ q => ⟨q.1, q.2.1, h1 _ _ _ q.2.2⟩) q) q) h
    | exact mi (fun _ _ q => mi (fun _ _ q => mr (fun _ _ q => ⟨q.1, q.2.1, q.2.2.1, h1 _ _ _ q.2.2.2⟩) q) q) h
    | exact mi (fun _ _ q => mi (fun _ _ q => mr (fun _ _ q => mi (fun _ _ q => mr (fun _ _ q => ⟨q.1, q.2.1, q.2.2.1, q.2.2.2.1, q.2.2.2.2.1, q.2.2.2.2.2.1, q.2.2.2.2.2.2.1, q.2.2.2.2.2.2.2.1, h1 _ _ _ q.2.2.2.2.2.2.2.2⟩) q) q) q) q) h
    | exact ⟨h.1, h.2.1, h3 _ _ _ _ _ (fun _ _ q => h1 _ _ _ q) h.2.2⟩
    | exact ⟨h.1, h.2.1, h.2.2.1, h3 _ _ _ _ _ (fun _ _ q => h1 _ _ _ q) h.2.2.2⟩
    | (split at h <;> first | exact h1 _ _ _ h | exact h)
theorem Met_mono {l : Launch} {y : MethodName} {ws : List Cond} {rm : Room} {Pc : Array Value → State → Prop} {Q1 Q2 : Array Value → State → Outcome → State → Prop} {mc ms : Nat} {free : Addr → Prop} (h : ∀ a st o t, Q1 a st o t → Q2 a st o t) (hM : Met l y ws rm Pc Q1 mc ms free) : Met l y ws rm Pc Q2 mc ms free := by
  intro p e ha hc hk s m args below hf hap hP hK
  obtain ⟨t, o, h1, h2, h3, h4, h5⟩ := hM p e ha hc hk s m args below hf hap hP hK
  exact ⟨t, o, h1, h2, h3, h _ _ _ _ h4, h5⟩
theorem Tri.mono {G : xG} {k : Nat} {as : List Value} {m : xM} {Q1 Q2 : xQt} (h : ∀ r m', Q1 r m' → Q2 r m') (hT : Tri G k as m Q1) : Tri G k as m Q2 := fun hi => Met_mono (fun _ _ _ _ ⟨⟨r, m', a, b, c⟩, d⟩ => ⟨⟨r, m', a, h r m' b, c⟩, d⟩) (hT hi)
