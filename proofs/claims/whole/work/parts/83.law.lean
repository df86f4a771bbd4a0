theorem law_loop {G : xG} {p : Program} {e : Env} {s : State} {m : MethodId} {below : List Frame} {meth : Method} {c : Code} {b L : Nat} {xs : Nat → Int32} (C : LX G p s m meth c b L xs) : ∀ (n i : Nat) (mm : xM) (H : Heap) (locs : List Loc) (ls : Array Slot), L ≤ 6 * (i + n) + 5 → 6 * i ≤ L + 6 → REL mm → va_P G.2.1 xcl (wl G mm) H → va_S (xA G) s.heap H locs → lv_has ls 4 (lawL G b i) → LW G p e s m below meth c b H locs 18 ls [] := by
  obtain ⟨hx, hb, hr, hml, hown, hts0, hX, hbl, hlocks, hgv⟩ := id C.1
  have hL := C.2.2.2.2.2
  have hsz := C.2.2.2.2.1
  have hbA : ¬ xA G b := fun ⟨k, h1, h2⟩ => by have := hsz k h1; omega
  intro n
  induction n with
  | zero =>
    intro i mm H locs ls h1 h2 hR hP hS hl
    refine lv_iload_n hx hb dl_18 rfl (lv_at hl 3 rfl) ?_
    refine lv_aload_n hx hb dl_19 rfl (lv_at hl 0 rfl) ?_
    refine va_slen hx hb hX hbl hbA hS dl_20 ?_
    refine lv_bipush (v := 6) hx hb dl_21 (by decide) ?_
    refine lv_isub hx hb dl_23 ?_
    refine lv_icmp_gt (tgt := 1181) hx hb dl_24 (by decide) (fun _ => ?_) (fun z => absurd ?_ z)
    · refine lv_iconst (v := 1) hx hb dl_1181 (by decide) ?_
      refine va_forget (fun q hq => ?_) ?_
      · obtain ⟨k, k1, k2⟩ := hS.2.2 q hq
        rw [k2]; exact hsz k k1
      refine W.widen (k := 600000) (n := 7302250) (by decide) (by decide) ?_
      exact lw_ret hx hb hr hlocks dl_1182
    · rw [Int32.lt_iff_toInt_lt, nI_toInt (by omega)]
      have e := pk_sub_toInt (a := L) (b := 6) (by omega) (by omega)
      show (nI L - nI 6).toInt < _
      rw [e]
      omega
  | succ n ih =>
    intro i mm H locs ls h1 h2 hR hP hS hl
    refine lv_iload_n hx hb dl_18 rfl (lv_at hl 3 rfl) ?_
    refine lv_aload_n hx hb dl_19 rfl (lv_at hl 0 rfl) ?_
    refine va_slen hx hb hX hbl hbA hS dl_20 ?_
    refine lv_bipush (v := 6) hx hb dl_21 (by decide) ?_
    refine lv_isub hx hb dl_23 ?_
    refine lv_icmp_gt (tgt := 1181) hx hb dl_24 (by decide) (fun _ => ?_) (fun z => ?_)
    · refine lv_iconst (v := 1) hx hb dl_1181 (by decide) ?_
      refine va_forget (fun q hq => ?_) ?_
      · obtain ⟨k, k1, k2⟩ := hS.2.2 q hq
        rw [k2]; exact hsz k k1
      refine W.widen (k := 600000) (n := 7302250) (by decide) (by decide) ?_
      exact lw_ret hx hb hr hlocks dl_1182
    have hi6 : 6 * i + 6 ≤ L := by
      have z2 : ¬ (nI L - nI 6) < nI (6 * i) := z
      rw [Int32.lt_iff_toInt_lt, nI_toInt (n := 6 * i) (by omega), pk_sub_toInt (a := L) (b := 6) (by omega) (by omega)] at z2
      omega
    have kk : ∀ m' H1 locs1, REL m' → va_P G.2.1 xcl (wl G m') H1 → va_S (xA G) s.heap H1 locs1 → LW G p e s m below meth c b H1 locs1 1175 ls [] := by
      intro m' H1 locs1 hR1 hP1 hS1
      refine lv_iinc (k := 3) (v := nI (6 * (i + 1))) (lv' := [(3, .int (nI (6 * (i + 1)))), (0, .ref b), (1, .ref (G.2.2.1 0)), (2, .ref (G.2.2.1 86))]) hx hb dl_1175 hl rfl (nI_add (6 * i) 6) (by decide) rfl (fun ls' hl' => ?_)
      refine lv_goto (tgt := 18) hx hb dl_1178 (by decide) ?_
      exact ih (i + 1) m' H1 locs1 ls' (by omega) (by omega) hR1 hP1 hS1 (lv_sub hl' [1, 2, 3, 0] rfl)
    refine lv_aload_n hx hb dl_27 rfl (lv_at hl 0 rfl) ?_
    refine lv_iload_n hx hb dl_28 rfl (lv_at hl 3 rfl) ?_
    refine va_sld hx hb hX hbl hbA hS (vp_in_nI (by omega) (by omega)) dl_29 ?_
    refine lv_bipush (v := 31) hx hb dl_30 (by decide) ?_
    refine lv_iand hx hb dl_32 ?_
    obtain ⟨j, hj, ej⟩ := pk_andE (xs (nI (6 * i)).toNatClampNeg) (m := 31) 5 (by decide)
    rw [ej]
    by_cases h30 : j < 30
    · have hjs : j = 0 ∨ j = 1 ∨ j = 2 ∨ j = 3 ∨ j = 4 ∨ j = 5 ∨ j = 6 ∨ j = 7 ∨ j = 8 ∨ j = 9 ∨ j = 10 ∨ j = 11 ∨ j = 12 ∨ j = 13 ∨ j = 14 ∨ j = 15 ∨ j = 16 ∨ j = 17 ∨ j = 18 ∨ j = 19 ∨ j = 20 ∨ j = 21 ∨ j = 22 ∨ j = 23 ∨ j = 24 ∨ j = 25 ∨ j = 26 ∨ j = 27 ∨ j = 28 ∨ j = 29 := by omega
      rcases hjs with rfl | rfl | rfl | rfl | rfl | rfl | rfl | rfl | rfl | rfl | rfl | rfl | rfl | rfl | rfl | rfl | rfl | rfl | rfl | rfl | rfl | rfl | rfl | rfl | rfl | rfl | rfl | rfl | rfl | rfl
      · exact lv_tableIn (tgt := 168) hx hb dl_33 (by decide) (by decide) rfl (by decide) (law_0 C hl hi6 hR hP hS kk)
      · exact lv_tableIn (tgt := 212) hx hb dl_33 (by decide) (by decide) rfl (by decide) (law_1 C hl hi6 hR hP hS kk)
      · exact lv_tableIn (tgt := 256) hx hb dl_33 (by decide) (by decide) rfl (by decide) (law_2 C hl hi6 hR hP hS kk)
      · exact lv_tableIn (tgt := 320) hx hb dl_33 (by decide) (by decide) rfl (by decide) (law_3 C hl hi6 hR hP hS kk)
      · exact lv_tableIn (tgt := 344) hx hb dl_33 (by decide) (by decide) rfl (by decide) (law_4 C hl hi6 hR hP hS kk)
      · exact lv_tableIn (tgt := 408) hx hb dl_33 (by decide) (by decide) rfl (by decide) (law_5 C hl hi6 hR hP hS kk)
      · exact lv_tableIn (tgt := 422) hx hb dl_33 (by decide) (by decide) rfl (by decide) (law_6 C hl hi6 hR hP hS kk)
      · exact lv_tableIn (tgt := 435) hx hb dl_33 (by decide) (by decide) rfl (by decide) (law_7 C hl hi6 hR hP hS kk)
      · exact lv_tableIn (tgt := 469) hx hb dl_33 (by decide) (by decide) rfl (by decide) (law_8 C hl hi6 hR hP hS kk)
      · exact lv_tableIn (tgt := 493) hx hb dl_33 (by decide) (by decide) rfl (by decide) (law_9 C hl hi6 hR hP hS kk)
      · exact lv_tableIn (tgt := 527) hx hb dl_33 (by decide) (by decide) rfl (by decide) (law_10 C hl hi6 hR hP hS kk)
      · exact lv_tableIn (tgt := 561) hx hb dl_33 (by decide) (by decide) rfl (by decide) (law_11 C hl hi6 hR hP hS kk)
      · exact lv_tableIn (tgt := 595) hx hb dl_33 (by decide) (by decide) rfl (by decide) (law_12 C hl hi6 hR hP hS kk)
      · exact lv_tableIn (tgt := 649) hx hb dl_33 (by decide) (by decide) rfl (by decide) (law_13 C hl hi6 hR hP hS kk)
      · exact lv_tableIn (tgt := 673) hx hb dl_33 (by decide) (by decide) rfl (by decide) (law_14 C hl hi6 hR hP hS kk)
      · exact lv_tableIn (tgt := 697) hx hb dl_33 (by decide) (by decide) rfl (by decide) (law_15 C hl hi6 hR hP hS kk)
      · exact lv_tableIn (tgt := 731) hx hb dl_33 (by decide) (by decide) rfl (by decide) (law_16 C hl hi6 hR hP hS kk)
      · exact lv_tableIn (tgt := 765) hx hb dl_33 (by decide) (by decide) rfl (by decide) (law_17 C hl hi6 hR hP hS kk)
      · exact lv_tableIn (tgt := 789) hx hb dl_33 (by decide) (by decide) rfl (by decide) (law_18 C hl hi6 hR hP hS kk)
      · exact lv_tableIn (tgt := 843) hx hb dl_33 (by decide) (by decide) rfl (by decide) (law_19 C hl hi6 hR hP hS kk)
      · exact lv_tableIn (tgt := 897) hx hb dl_33 (by decide) (by decide) rfl (by decide) (law_20 C hl hi6 hR hP hS kk)
      · exact lv_tableIn (tgt := 941) hx hb dl_33 (by decide) (by decide) rfl (by decide) (law_21 C hl hi6 hR hP hS kk)
      · exact lv_tableIn (tgt := 975) hx hb dl_33 (by decide) (by decide) rfl (by decide) (law_22 C hl hi6 hR hP hS kk)
      · exact lv_tableIn (tgt := 999) hx hb dl_33 (by decide) (by decide) rfl (by decide) (law_23 C hl hi6 hR hP hS kk)
      · exact lv_tableIn (tgt := 1023) hx hb dl_33 (by decide) (by decide) rfl (by decide) (law_24 C hl hi6 hR hP hS kk)
      · exact lv_tableIn (tgt := 1047) hx hb dl_33 (by decide) (by decide) rfl (by decide) (law_25 C hl hi6 hR hP hS kk)
      · exact lv_tableIn (tgt := 1081) hx hb dl_33 (by decide) (by decide) rfl (by decide) (law_26 C hl hi6 hR hP hS kk)
      · exact lv_tableIn (tgt := 1115) hx hb dl_33 (by decide) (by decide) rfl (by decide) (law_27 C hl hi6 hR hP hS kk)
      · exact lv_tableIn (tgt := 1138) hx hb dl_33 (by decide) (by decide) rfl (by decide) (law_28 C hl hi6 hR hP hS kk)
      · exact lv_tableIn (tgt := 1162) hx hb dl_33 (by decide) (by decide) rfl (by decide) (law_29 C hl hi6 hR hP hS kk)
    · exact lv_tableOut (tgt := 1175) hx hb dl_33 (Or.inr (by rw [nI_toInt (by omega)]; show (29 : Int) < j; omega)) (by decide) (kk mm H locs hR hP hS)

