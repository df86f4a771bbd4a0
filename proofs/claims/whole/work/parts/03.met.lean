abbrev xME : Type := MethodName × ByteArray × Nat × Option FieldType × Nat × Nat × Nat × Nat
/-- name, bytes, locals, answer, own class, height, parameters, kind (0 static, 1 virtual, 2 none of ours) -/
def mokE (e : xME) : Prop := e.2.2.2.2.2.2.2 = 2 ∨ (Cond.code e.1 e.2.1 e.2.2.1 e.2.2.2.1 ∈ lw_tbl ∧ (Cond.initialized e.1.cls ∈ lw_tbl ∧ plainName e.1.cls = true ∧ cn e.2.2.2.2.1 = e.1.cls ∧ e.2.2.1 ≤ 40) ∧ (e.1.cls ≠ "java/lang/invoke/MethodHandle" ∧ e.1.cls ≠ "java/lang/invoke/VarHandle" ∧ (parseMethodDescriptor e.1.desc).map (fun d => d.parameters.length) = some e.2.2.2.2.2.2.1) ∧ ((e.2.2.2.2.2.2.2 = 0 ∧ Cond.static e.1 ∈ lw_tbl) ∨ (e.2.2.2.2.2.2.2 = 1 ∧ Cond.instanceMethod e.1 ∈ lw_tbl ∧ Cond.selects e.1.cls e.1 e.1 ∈ lw_tbl)))
def xe0 : xME := (⟨"OverInDinghy", "<init>", "()V"⟩, prog_1_method_1_code, 1, none, 0, 0, 0, 2)
theorem xm0 : mokE xe0 := Or.inl rfl
def xe1 : xME := (⟨"OverInDinghy$Rows", "<init>", "()V"⟩, prog_9_method_1_code, 1, none, 8, 1, 0, 2)
theorem xm1 : mokE xe1 := Or.inl rfl
def xe2 : xME := (⟨"java/util/Arrays", "fill", "([II)V"⟩, prog_18_method_103_code, 4, none, 15, 0, 2, 0)
set_option maxRecDepth 30000 in
theorem xm2 : mokE xe2 := Or.inr ⟨List.mem_of_getElem? (i := 109) rfl, ⟨List.mem_of_getElem? (i := 77) (by decide +kernel), by decide +kernel, by decide +kernel, by decide +kernel⟩, by decide +kernel, Or.inl ⟨rfl, List.mem_of_getElem? (i := 108) (by decide +kernel)⟩⟩
def xe3 : xME := (⟨"OverInDinghy$Reader", "<init>", "()V"⟩, prog_7_method_1_code, 1, none, 6, 0, 0, 2)
theorem xm3 : mokE xe3 := Or.inl rfl
def xe4 : xME := (⟨"OverInDinghy$Club", "<init>", "()V"⟩, prog_3_method_1_code, 1, none, 2, 0, 0, 2)
theorem xm4 : mokE xe4 := Or.inl rfl
def xe5 : xME := (⟨"OverInDinghy$Draws", "<init>", "()V"⟩, prog_4_method_1_code, 1, none, 3, 0, 0, 2)
theorem xm5 : mokE xe5 := Or.inl rfl
def xe6 : xME := (⟨"OverInDinghy$Search", "<init>", "()V"⟩, prog_10_method_1_code, 1, none, 9, 0, 0, 2)
theorem xm6 : mokE xe6 := Or.inl rfl
def xe7 : xME := (⟨"OverInDinghy$Rescue", "<init>", "()V"⟩, prog_8_method_1_code, 1, none, 7, 0, 0, 2)
theorem xm7 : mokE xe7 := Or.inl rfl
def xe8 : xME := (⟨"OverInDinghy$Asks", "<init>", "()V"⟩, prog_2_method_1_code, 1, none, 1, 0, 0, 2)
theorem xm8 : mokE xe8 := Or.inl rfl
def xe9 : xME := (⟨"OverInDinghy", "row", "(III)J"⟩, prog_1_method_2_code, 4, (some .long), 0, 1, 3, 1)
set_option maxRecDepth 30000 in
theorem xm9 : mokE xe9 := Or.inr ⟨List.mem_of_getElem? (i := 376) rfl, ⟨List.mem_of_getElem? (i := 75) (by decide +kernel), by decide +kernel, by decide +kernel, by decide +kernel⟩, by decide +kernel, Or.inr ⟨rfl, List.mem_of_getElem? (i := 374) (by decide +kernel), List.mem_of_getElem? (i := 375) (by decide +kernel)⟩⟩
def xe10 : xME := (⟨"OverInDinghy$Rows", "isRow", "(I)Z"⟩, prog_9_method_2_code, 1, (some .boolean), 8, 0, 1, 0)
set_option maxRecDepth 30000 in
theorem xm10 : mokE xe10 := Or.inr ⟨List.mem_of_getElem? (i := 379) rfl, ⟨List.mem_of_getElem? (i := 76) (by decide +kernel), by decide +kernel, by decide +kernel, by decide +kernel⟩, by decide +kernel, Or.inl ⟨rfl, List.mem_of_getElem? (i := 378) (by decide +kernel)⟩⟩
def xe11 : xME := (⟨"OverInDinghy", "found", "(I)J"⟩, prog_1_method_32_code, 2, (some .long), 0, 0, 1, 1)
set_option maxRecDepth 30000 in
theorem xm11 : mokE xe11 := Or.inr ⟨List.mem_of_getElem? (i := 384) rfl, ⟨List.mem_of_getElem? (i := 75) (by decide +kernel), by decide +kernel, by decide +kernel, by decide +kernel⟩, by decide +kernel, Or.inr ⟨rfl, List.mem_of_getElem? (i := 383) (by decide +kernel), List.mem_of_getElem? (i := 0) (by decide +kernel)⟩⟩
def xe12 : xME := (⟨"OverInDinghy$Rows", "make", "(III)V"⟩, prog_9_method_4_code, 5, none, 8, 0, 3, 1)
set_option maxRecDepth 30000 in
theorem xm12 : mokE xe12 := Or.inr ⟨List.mem_of_getElem? (i := 389) rfl, ⟨List.mem_of_getElem? (i := 76) (by decide +kernel), by decide +kernel, by decide +kernel, by decide +kernel⟩, by decide +kernel, Or.inr ⟨rfl, List.mem_of_getElem? (i := 387) (by decide +kernel), List.mem_of_getElem? (i := 388) (by decide +kernel)⟩⟩
def xe13 : xME := (⟨"OverInDinghy", "fine", "(J)J"⟩, prog_1_method_33_code, 3, (some .long), 0, 0, 1, 1)
set_option maxRecDepth 30000 in
theorem xm13 : mokE xe13 := Or.inr ⟨List.mem_of_getElem? (i := 393) rfl, ⟨List.mem_of_getElem? (i := 75) (by decide +kernel), by decide +kernel, by decide +kernel, by decide +kernel⟩, by decide +kernel, Or.inr ⟨rfl, List.mem_of_getElem? (i := 392) (by decide +kernel), List.mem_of_getElem? (i := 1) (by decide +kernel)⟩⟩
def xe14 : xME := (⟨"OverInDinghy", "set", "(III)J"⟩, prog_1_method_3_code, 4, (some .long), 0, 1, 3, 1)
set_option maxRecDepth 30000 in
theorem xm14 : mokE xe14 := Or.inr ⟨List.mem_of_getElem? (i := 397) rfl, ⟨List.mem_of_getElem? (i := 75) (by decide +kernel), by decide +kernel, by decide +kernel, by decide +kernel⟩, by decide +kernel, Or.inr ⟨rfl, List.mem_of_getElem? (i := 395) (by decide +kernel), List.mem_of_getElem? (i := 396) (by decide +kernel)⟩⟩
def xe15 : xME := (⟨"OverInDinghy$Rows", "isMissing", "(I)Z"⟩, prog_9_method_3_code, 2, (some .boolean), 8, 0, 1, 1)
set_option maxRecDepth 30000 in
theorem xm15 : mokE xe15 := Or.inr ⟨List.mem_of_getElem? (i := 401) rfl, ⟨List.mem_of_getElem? (i := 76) (by decide +kernel), by decide +kernel, by decide +kernel, by decide +kernel⟩, by decide +kernel, Or.inr ⟨rfl, List.mem_of_getElem? (i := 399) (by decide +kernel), List.mem_of_getElem? (i := 400) (by decide +kernel)⟩⟩
def xe16 : xME := (⟨"OverInDinghy$Rows", "put", "(III)I"⟩, prog_9_method_5_code, 5, (some .int), 8, 0, 3, 1)
set_option maxRecDepth 30000 in
theorem xm16 : mokE xe16 := Or.inr ⟨List.mem_of_getElem? (i := 405) rfl, ⟨List.mem_of_getElem? (i := 76) (by decide +kernel), by decide +kernel, by decide +kernel, by decide +kernel⟩, by decide +kernel, Or.inr ⟨rfl, List.mem_of_getElem? (i := 403) (by decide +kernel), List.mem_of_getElem? (i := 404) (by decide +kernel)⟩⟩
def xe17 : xME := (⟨"OverInDinghy", "copy", "(IIIII)J"⟩, prog_1_method_4_code, 6, (some .long), 0, 1, 5, 1)
set_option maxRecDepth 30000 in
theorem xm17 : mokE xe17 := Or.inr ⟨List.mem_of_getElem? (i := 409) rfl, ⟨List.mem_of_getElem? (i := 75) (by decide +kernel), by decide +kernel, by decide +kernel, by decide +kernel⟩, by decide +kernel, Or.inr ⟨rfl, List.mem_of_getElem? (i := 407) (by decide +kernel), List.mem_of_getElem? (i := 408) (by decide +kernel)⟩⟩
def xe18 : xME := (⟨"OverInDinghy$Rows", "holds", "(III)Z"⟩, prog_9_method_7_code, 4, (some .boolean), 8, 0, 3, 1)
set_option maxRecDepth 30000 in
theorem xm18 : mokE xe18 := Or.inr ⟨List.mem_of_getElem? (i := 413) rfl, ⟨List.mem_of_getElem? (i := 76) (by decide +kernel), by decide +kernel, by decide +kernel, by decide +kernel⟩, by decide +kernel, Or.inr ⟨rfl, List.mem_of_getElem? (i := 411) (by decide +kernel), List.mem_of_getElem? (i := 412) (by decide +kernel)⟩⟩
def xe19 : xME := (⟨"OverInDinghy$Rows", "move", "(IIIII)V"⟩, prog_9_method_8_code, 6, none, 8, 0, 5, 1)
set_option maxRecDepth 30000 in
theorem xm19 : mokE xe19 := Or.inr ⟨List.mem_of_getElem? (i := 417) rfl, ⟨List.mem_of_getElem? (i := 76) (by decide +kernel), by decide +kernel, by decide +kernel, by decide +kernel⟩, by decide +kernel, Or.inr ⟨rfl, List.mem_of_getElem? (i := 415) (by decide +kernel), List.mem_of_getElem? (i := 416) (by decide +kernel)⟩⟩
def xmt0 : List xME := [xe0, xe1, xe2, xe3, xe4, xe5, xe6, xe7, xe8, xe9, xe10, xe11, xe12, xe13, xe14, xe15, xe16, xe17, xe18, xe19]
theorem xmt0_ok : ∀ e ∈ xmt0, mokE e := List.forall_mem_cons.mpr ⟨xm0, List.forall_mem_cons.mpr ⟨xm1, List.forall_mem_cons.mpr ⟨xm2, List.forall_mem_cons.mpr ⟨xm3, List.forall_mem_cons.mpr ⟨xm4, List.forall_mem_cons.mpr ⟨xm5, List.forall_mem_cons.mpr ⟨xm6, List.forall_mem_cons.mpr ⟨xm7, List.forall_mem_cons.mpr ⟨xm8, List.forall_mem_cons.mpr ⟨xm9, List.forall_mem_cons.mpr ⟨xm10, List.forall_mem_cons.mpr ⟨xm11, List.forall_mem_cons.mpr ⟨xm12, List.forall_mem_cons.mpr ⟨xm13, List.forall_mem_cons.mpr ⟨xm14, List.forall_mem_cons.mpr ⟨xm15, List.forall_mem_cons.mpr ⟨xm16, List.forall_mem_cons.mpr ⟨xm17, List.forall_mem_cons.mpr ⟨xm18, List.forall_mem_cons.mpr ⟨xm19, fun _ h => absurd h List.not_mem_nil⟩⟩⟩⟩⟩⟩⟩⟩⟩⟩⟩⟩⟩⟩⟩⟩⟩⟩⟩⟩
def xe20 : xME := (⟨"OverInDinghy", "drop", "(I)J"⟩, prog_1_method_5_code, 3, (some .long), 0, 1, 1, 1)
set_option maxRecDepth 30000 in
theorem xm20 : mokE xe20 := Or.inr ⟨List.mem_of_getElem? (i := 424) rfl, ⟨List.mem_of_getElem? (i := 75) (by decide +kernel), by decide +kernel, by decide +kernel, by decide +kernel⟩, by decide +kernel, Or.inr ⟨rfl, List.mem_of_getElem? (i := 422) (by decide +kernel), List.mem_of_getElem? (i := 423) (by decide +kernel)⟩⟩
def xe21 : xME := (⟨"OverInDinghy", "feed", "(JI)J"⟩, prog_1_method_6_code, 4, (some .long), 0, 1, 2, 1)
set_option maxRecDepth 30000 in
theorem xm21 : mokE xe21 := Or.inr ⟨List.mem_of_getElem? (i := 428) rfl, ⟨List.mem_of_getElem? (i := 75) (by decide +kernel), by decide +kernel, by decide +kernel, by decide +kernel⟩, by decide +kernel, Or.inr ⟨rfl, List.mem_of_getElem? (i := 426) (by decide +kernel), List.mem_of_getElem? (i := 427) (by decide +kernel)⟩⟩
def xe22 : xME := (⟨"OverInDinghy$Reader", "hasRoom", "(I)Z"⟩, prog_7_method_2_code, 2, (some .boolean), 6, 0, 1, 1)
set_option maxRecDepth 30000 in
theorem xm22 : mokE xe22 := Or.inr ⟨List.mem_of_getElem? (i := 432) rfl, ⟨List.mem_of_getElem? (i := 78) (by decide +kernel), by decide +kernel, by decide +kernel, by decide +kernel⟩, by decide +kernel, Or.inr ⟨rfl, List.mem_of_getElem? (i := 430) (by decide +kernel), List.mem_of_getElem? (i := 431) (by decide +kernel)⟩⟩
def xe23 : xME := (⟨"OverInDinghy$Reader", "append", "(JI)V"⟩, prog_7_method_3_code, 5, none, 6, 0, 2, 1)
set_option maxRecDepth 30000 in
theorem xm23 : mokE xe23 := Or.inr ⟨List.mem_of_getElem? (i := 437) rfl, ⟨List.mem_of_getElem? (i := 78) (by decide +kernel), by decide +kernel, by decide +kernel, by decide +kernel⟩, by decide +kernel, Or.inr ⟨rfl, List.mem_of_getElem? (i := 435) (by decide +kernel), List.mem_of_getElem? (i := 436) (by decide +kernel)⟩⟩
def xe24 : xME := (⟨"OverInDinghy", "club", "()J"⟩, prog_1_method_7_code, 2, (some .long), 0, 8, 0, 1)
set_option maxRecDepth 30000 in
theorem xm24 : mokE xe24 := Or.inr ⟨List.mem_of_getElem? (i := 441) rfl, ⟨List.mem_of_getElem? (i := 75) (by decide +kernel), by decide +kernel, by decide +kernel, by decide +kernel⟩, by decide +kernel, Or.inr ⟨rfl, List.mem_of_getElem? (i := 439) (by decide +kernel), List.mem_of_getElem? (i := 440) (by decide +kernel)⟩⟩
def xe25 : xME := (⟨"OverInDinghy$Reader", "read", "(LOverInDinghy$Club;)Z"⟩, prog_7_method_4_code, 3, (some .boolean), 6, 7, 1, 1)
set_option maxRecDepth 30000 in
theorem xm25 : mokE xe25 := Or.inr ⟨List.mem_of_getElem? (i := 445) rfl, ⟨List.mem_of_getElem? (i := 78) (by decide +kernel), by decide +kernel, by decide +kernel, by decide +kernel⟩, by decide +kernel, Or.inr ⟨rfl, List.mem_of_getElem? (i := 443) (by decide +kernel), List.mem_of_getElem? (i := 444) (by decide +kernel)⟩⟩
def xe26 : xME := (⟨"OverInDinghy$Club", "empty", "()V"⟩, prog_3_method_2_code, 1, none, 2, 1, 0, 1)
set_option maxRecDepth 30000 in
theorem xm26 : mokE xe26 := Or.inr ⟨List.mem_of_getElem? (i := 449) rfl, ⟨List.mem_of_getElem? (i := 79) (by decide +kernel), by decide +kernel, by decide +kernel, by decide +kernel⟩, by decide +kernel, Or.inr ⟨rfl, List.mem_of_getElem? (i := 447) (by decide +kernel), List.mem_of_getElem? (i := 448) (by decide +kernel)⟩⟩
def xe27 : xME := (⟨"OverInDinghy$Reader", "step", "()V"⟩, prog_7_method_13_code, 1, none, 6, 2, 0, 1)
set_option maxRecDepth 30000 in
theorem xm27 : mokE xe27 := Or.inr ⟨List.mem_of_getElem? (i := 454) rfl, ⟨List.mem_of_getElem? (i := 78) (by decide +kernel), by decide +kernel, by decide +kernel, by decide +kernel⟩, by decide +kernel, Or.inr ⟨rfl, List.mem_of_getElem? (i := 453) (by decide +kernel), List.mem_of_getElem? (i := 2) (by decide +kernel)⟩⟩
def xe28 : xME := (⟨"OverInDinghy$Reader", "isLetter", "(B)Z"⟩, prog_7_method_16_code, 1, (some .boolean), 6, 0, 1, 0)
set_option maxRecDepth 30000 in
theorem xm28 : mokE xe28 := Or.inr ⟨List.mem_of_getElem? (i := 457) rfl, ⟨List.mem_of_getElem? (i := 78) (by decide +kernel), by decide +kernel, by decide +kernel, by decide +kernel⟩, by decide +kernel, Or.inl ⟨rfl, List.mem_of_getElem? (i := 456) (by decide +kernel)⟩⟩
def xe29 : xME := (⟨"OverInDinghy$Reader", "stepName", "()V"⟩, prog_7_method_14_code, 1, none, 6, 1, 0, 1)
set_option maxRecDepth 30000 in
theorem xm29 : mokE xe29 := Or.inr ⟨List.mem_of_getElem? (i := 461) rfl, ⟨List.mem_of_getElem? (i := 78) (by decide +kernel), by decide +kernel, by decide +kernel, by decide +kernel⟩, by decide +kernel, Or.inr ⟨rfl, List.mem_of_getElem? (i := 460) (by decide +kernel), List.mem_of_getElem? (i := 3) (by decide +kernel)⟩⟩
def xe30 : xME := (⟨"OverInDinghy$Reader", "isFigure", "(B)Z"⟩, prog_7_method_17_code, 1, (some .boolean), 6, 0, 1, 0)
set_option maxRecDepth 30000 in
theorem xm30 : mokE xe30 := Or.inr ⟨List.mem_of_getElem? (i := 464) rfl, ⟨List.mem_of_getElem? (i := 78) (by decide +kernel), by decide +kernel, by decide +kernel, by decide +kernel⟩, by decide +kernel, Or.inl ⟨rfl, List.mem_of_getElem? (i := 463) (by decide +kernel)⟩⟩
def xe31 : xME := (⟨"OverInDinghy$Reader", "stepNumber", "()V"⟩, prog_7_method_15_code, 1, none, 6, 1, 0, 1)
set_option maxRecDepth 30000 in
theorem xm31 : mokE xe31 := Or.inr ⟨List.mem_of_getElem? (i := 468) rfl, ⟨List.mem_of_getElem? (i := 78) (by decide +kernel), by decide +kernel, by decide +kernel, by decide +kernel⟩, by decide +kernel, Or.inr ⟨rfl, List.mem_of_getElem? (i := 467) (by decide +kernel), List.mem_of_getElem? (i := 4) (by decide +kernel)⟩⟩
def xe32 : xME := (⟨"OverInDinghy$Reader", "readSea", "(LOverInDinghy$Club;)Z"⟩, prog_7_method_5_code, 2, (some .boolean), 6, 6, 1, 1)
set_option maxRecDepth 30000 in
theorem xm32 : mokE xe32 := Or.inr ⟨List.mem_of_getElem? (i := 472) rfl, ⟨List.mem_of_getElem? (i := 78) (by decide +kernel), by decide +kernel, by decide +kernel, by decide +kernel⟩, by decide +kernel, Or.inr ⟨rfl, List.mem_of_getElem? (i := 471) (by decide +kernel), List.mem_of_getElem? (i := 5) (by decide +kernel)⟩⟩
def xe33 : xME := (⟨"OverInDinghy$Reader", "takeWord", "(Ljava/lang/String;Z)Z"⟩, prog_7_method_8_code, 3, (some .boolean), 6, 5, 2, 1)
set_option maxRecDepth 30000 in
theorem xm33 : mokE xe33 := Or.inr ⟨List.mem_of_getElem? (i := 477) rfl, ⟨List.mem_of_getElem? (i := 78) (by decide +kernel), by decide +kernel, by decide +kernel, by decide +kernel⟩, by decide +kernel, Or.inr ⟨rfl, List.mem_of_getElem? (i := 476) (by decide +kernel), List.mem_of_getElem? (i := 6) (by decide +kernel)⟩⟩
def xe34 : xME := (⟨"OverInDinghy$Reader", "isWord", "(Ljava/lang/String;)Z"⟩, prog_7_method_12_code, 3, (some .boolean), 6, 4, 1, 1)
set_option maxRecDepth 30000 in
theorem xm34 : mokE xe34 := Or.inr ⟨List.mem_of_getElem? (i := 481) rfl, ⟨List.mem_of_getElem? (i := 78) (by decide +kernel), by decide +kernel, by decide +kernel, by decide +kernel⟩, by decide +kernel, Or.inr ⟨rfl, List.mem_of_getElem? (i := 480) (by decide +kernel), List.mem_of_getElem? (i := 7) (by decide +kernel)⟩⟩
def xe35 : xME := (⟨"java/lang/String", "length", "()I"⟩, prog_14_method_54_code, 1, (some .int), 13, 1, 0, 1)
set_option maxRecDepth 30000 in
theorem xm35 : mokE xe35 := Or.inr ⟨List.mem_of_getElem? (i := 485) rfl, ⟨List.mem_of_getElem? (i := 86) (by decide +kernel), by decide +kernel, by decide +kernel, by decide +kernel⟩, by decide +kernel, Or.inr ⟨rfl, List.mem_of_getElem? (i := 483) (by decide +kernel), List.mem_of_getElem? (i := 484) (by decide +kernel)⟩⟩
def xe36 : xME := (⟨"java/lang/String", "coder", "()B"⟩, prog_14_method_152_code, 1, (some .byte), 13, 0, 0, 1)
set_option maxRecDepth 30000 in
theorem xm36 : mokE xe36 := Or.inr ⟨List.mem_of_getElem? (i := 489) rfl, ⟨List.mem_of_getElem? (i := 86) (by decide +kernel), by decide +kernel, by decide +kernel, by decide +kernel⟩, by decide +kernel, Or.inr ⟨rfl, List.mem_of_getElem? (i := 487) (by decide +kernel), List.mem_of_getElem? (i := 488) (by decide +kernel)⟩⟩
def xe37 : xME := (⟨"java/lang/String", "charAt", "(I)C"⟩, prog_14_method_56_code, 2, (some .char), 13, 3, 1, 1)
set_option maxRecDepth 30000 in
theorem xm37 : mokE xe37 := Or.inr ⟨List.mem_of_getElem? (i := 495) rfl, ⟨List.mem_of_getElem? (i := 86) (by decide +kernel), by decide +kernel, by decide +kernel, by decide +kernel⟩, by decide +kernel, Or.inr ⟨rfl, List.mem_of_getElem? (i := 493) (by decide +kernel), List.mem_of_getElem? (i := 494) (by decide +kernel)⟩⟩
def xe38 : xME := (⟨"java/lang/String", "isLatin1", "()Z"⟩, prog_14_method_154_code, 1, (some .boolean), 13, 0, 0, 1)
set_option maxRecDepth 30000 in
theorem xm38 : mokE xe38 := Or.inr ⟨List.mem_of_getElem? (i := 499) rfl, ⟨List.mem_of_getElem? (i := 86) (by decide +kernel), by decide +kernel, by decide +kernel, by decide +kernel⟩, by decide +kernel, Or.inr ⟨rfl, List.mem_of_getElem? (i := 497) (by decide +kernel), List.mem_of_getElem? (i := 498) (by decide +kernel)⟩⟩
def xe39 : xME := (⟨"java/lang/StringLatin1", "charAt", "([BI)C"⟩, prog_15_method_2_code, 2, (some .char), 14, 2, 2, 0)
set_option maxRecDepth 30000 in
theorem xm39 : mokE xe39 := Or.inr ⟨List.mem_of_getElem? (i := 502) rfl, ⟨List.mem_of_getElem? (i := 87) (by decide +kernel), by decide +kernel, by decide +kernel, by decide +kernel⟩, by decide +kernel, Or.inl ⟨rfl, List.mem_of_getElem? (i := 501) (by decide +kernel)⟩⟩
def xmt1 : List xME := [xe20, xe21, xe22, xe23, xe24, xe25, xe26, xe27, xe28, xe29, xe30, xe31, xe32, xe33, xe34, xe35, xe36, xe37, xe38, xe39]
theorem xmt1_ok : ∀ e ∈ xmt1, mokE e := List.forall_mem_cons.mpr ⟨xm20, List.forall_mem_cons.mpr ⟨xm21, List.forall_mem_cons.mpr ⟨xm22, List.forall_mem_cons.mpr ⟨xm23, List.forall_mem_cons.mpr ⟨xm24, List.forall_mem_cons.mpr ⟨xm25, List.forall_mem_cons.mpr ⟨xm26, List.forall_mem_cons.mpr ⟨xm27, List.forall_mem_cons.mpr ⟨xm28, List.forall_mem_cons.mpr ⟨xm29, List.forall_mem_cons.mpr ⟨xm30, List.forall_mem_cons.mpr ⟨xm31, List.forall_mem_cons.mpr ⟨xm32, List.forall_mem_cons.mpr ⟨xm33, List.forall_mem_cons.mpr ⟨xm34, List.forall_mem_cons.mpr ⟨xm35, List.forall_mem_cons.mpr ⟨xm36, List.forall_mem_cons.mpr ⟨xm37, List.forall_mem_cons.mpr ⟨xm38, List.forall_mem_cons.mpr ⟨xm39, fun _ h => absurd h List.not_mem_nil⟩⟩⟩⟩⟩⟩⟩⟩⟩⟩⟩⟩⟩⟩⟩⟩⟩⟩⟩⟩
def xe40 : xME := (⟨"java/lang/String", "checkIndex", "(II)V"⟩, prog_14_method_155_code, 2, none, 13, 1, 2, 0)
set_option maxRecDepth 30000 in
theorem xm40 : mokE xe40 := Or.inr ⟨List.mem_of_getElem? (i := 505) rfl, ⟨List.mem_of_getElem? (i := 86) (by decide +kernel), by decide +kernel, by decide +kernel, by decide +kernel⟩, by decide +kernel, Or.inl ⟨rfl, List.mem_of_getElem? (i := 504) (by decide +kernel)⟩⟩
def xe41 : xME := (⟨"jdk/internal/util/Preconditions", "checkIndex", "(IILjava/util/function/BiFunction;)I"⟩, prog_19_method_11_code, 3, (some .int), 16, 0, 3, 0)
set_option maxRecDepth 30000 in
theorem xm41 : mokE xe41 := Or.inr ⟨List.mem_of_getElem? (i := 510) rfl, ⟨List.mem_of_getElem? (i := 88) (by decide +kernel), by decide +kernel, by decide +kernel, by decide +kernel⟩, by decide +kernel, Or.inl ⟨rfl, List.mem_of_getElem? (i := 509) (by decide +kernel)⟩⟩
def xe42 : xME := (⟨"java/lang/StringUTF16", "charAt", "([BI)C"⟩, prog_16_method_83_code, 2, (some .char), 17, 0, 2, 2)
theorem xm42 : mokE xe42 := Or.inl rfl
def xe43 : xME := (⟨"java/lang/StringUTF16", "checkIndex", "(I[B)V"⟩, prog_16_method_91_code, 2, none, 17, 2, 2, 2)
theorem xm43 : mokE xe43 := Or.inl rfl
def xe44 : xME := (⟨"java/lang/StringUTF16", "length", "([B)I"⟩, prog_16_method_6_code, 1, (some .int), 17, 0, 1, 2)
theorem xm44 : mokE xe44 := Or.inl rfl
def xe45 : xME := (⟨"java/lang/StringUTF16", "getChar", "([BI)C"⟩, prog_16_method_5_code, 2, (some .char), 17, 0, 2, 2)
theorem xm45 : mokE xe45 := Or.inl rfl
def xe46 : xME := (⟨"OverInDinghy$Reader", "refuse", "(II)Z"⟩, prog_7_method_11_code, 3, (some .boolean), 6, 0, 2, 1)
set_option maxRecDepth 30000 in
theorem xm46 : mokE xe46 := Or.inr ⟨List.mem_of_getElem? (i := 533) rfl, ⟨List.mem_of_getElem? (i := 78) (by decide +kernel), by decide +kernel, by decide +kernel, by decide +kernel⟩, by decide +kernel, Or.inr ⟨rfl, List.mem_of_getElem? (i := 532) (by decide +kernel), List.mem_of_getElem? (i := 8) (by decide +kernel)⟩⟩
def xe47 : xME := (⟨"OverInDinghy$Reader", "takeNumber", "(II)Z"⟩, prog_7_method_9_code, 3, (some .boolean), 6, 3, 2, 1)
set_option maxRecDepth 30000 in
theorem xm47 : mokE xe47 := Or.inr ⟨List.mem_of_getElem? (i := 537) rfl, ⟨List.mem_of_getElem? (i := 78) (by decide +kernel), by decide +kernel, by decide +kernel, by decide +kernel⟩, by decide +kernel, Or.inr ⟨rfl, List.mem_of_getElem? (i := 536) (by decide +kernel), List.mem_of_getElem? (i := 9) (by decide +kernel)⟩⟩
def xe48 : xME := (⟨"OverInDinghy$Reader", "takeSign", "()Z"⟩, prog_7_method_10_code, 1, (some .boolean), 6, 3, 0, 1)
set_option maxRecDepth 30000 in
theorem xm48 : mokE xe48 := Or.inr ⟨List.mem_of_getElem? (i := 542) rfl, ⟨List.mem_of_getElem? (i := 78) (by decide +kernel), by decide +kernel, by decide +kernel, by decide +kernel⟩, by decide +kernel, Or.inr ⟨rfl, List.mem_of_getElem? (i := 541) (by decide +kernel), List.mem_of_getElem? (i := 10) (by decide +kernel)⟩⟩
def xe49 : xME := (⟨"OverInDinghy$Reader", "readBoat", "(LOverInDinghy$Club;)Z"⟩, prog_7_method_6_code, 3, (some .boolean), 6, 6, 1, 1)
set_option maxRecDepth 30000 in
theorem xm49 : mokE xe49 := Or.inr ⟨List.mem_of_getElem? (i := 547) rfl, ⟨List.mem_of_getElem? (i := 78) (by decide +kernel), by decide +kernel, by decide +kernel, by decide +kernel⟩, by decide +kernel, Or.inr ⟨rfl, List.mem_of_getElem? (i := 546) (by decide +kernel), List.mem_of_getElem? (i := 11) (by decide +kernel)⟩⟩
def xe50 : xME := (⟨"OverInDinghy$Reader", "readHand", "(LOverInDinghy$Club;)Z"⟩, prog_7_method_7_code, 5, (some .boolean), 6, 6, 1, 1)
set_option maxRecDepth 30000 in
theorem xm50 : mokE xe50 := Or.inr ⟨List.mem_of_getElem? (i := 551) rfl, ⟨List.mem_of_getElem? (i := 78) (by decide +kernel), by decide +kernel, by decide +kernel, by decide +kernel⟩, by decide +kernel, Or.inr ⟨rfl, List.mem_of_getElem? (i := 550) (by decide +kernel), List.mem_of_getElem? (i := 12) (by decide +kernel)⟩⟩
def xe51 : xME := (⟨"OverInDinghy$Club", "crewOf", "(I)I"⟩, prog_3_method_10_code, 4, (some .int), 2, 0, 1, 1)
set_option maxRecDepth 30000 in
theorem xm51 : mokE xe51 := Or.inr ⟨List.mem_of_getElem? (i := 556) rfl, ⟨List.mem_of_getElem? (i := 79) (by decide +kernel), by decide +kernel, by decide +kernel, by decide +kernel⟩, by decide +kernel, Or.inr ⟨rfl, List.mem_of_getElem? (i := 554) (by decide +kernel), List.mem_of_getElem? (i := 555) (by decide +kernel)⟩⟩
def xe52 : xME := (⟨"OverInDinghy$Club", "become", "(LOverInDinghy$Club;)V"⟩, prog_3_method_3_code, 2, none, 2, 0, 1, 1)
set_option maxRecDepth 30000 in
theorem xm52 : mokE xe52 := Or.inr ⟨List.mem_of_getElem? (i := 561) rfl, ⟨List.mem_of_getElem? (i := 79) (by decide +kernel), by decide +kernel, by decide +kernel, by decide +kernel⟩, by decide +kernel, Or.inr ⟨rfl, List.mem_of_getElem? (i := 559) (by decide +kernel), List.mem_of_getElem? (i := 560) (by decide +kernel)⟩⟩
def xe53 : xME := (⟨"OverInDinghy", "fault", "()I"⟩, prog_1_method_8_code, 1, (some .int), 0, 0, 0, 1)
set_option maxRecDepth 30000 in
theorem xm53 : mokE xe53 := Or.inr ⟨List.mem_of_getElem? (i := 566) rfl, ⟨List.mem_of_getElem? (i := 75) (by decide +kernel), by decide +kernel, by decide +kernel, by decide +kernel⟩, by decide +kernel, Or.inr ⟨rfl, List.mem_of_getElem? (i := 564) (by decide +kernel), List.mem_of_getElem? (i := 565) (by decide +kernel)⟩⟩
def xe54 : xME := (⟨"OverInDinghy", "place", "(II)J"⟩, prog_1_method_9_code, 3, (some .long), 0, 1, 2, 1)
set_option maxRecDepth 30000 in
theorem xm54 : mokE xe54 := Or.inr ⟨List.mem_of_getElem? (i := 570) rfl, ⟨List.mem_of_getElem? (i := 75) (by decide +kernel), by decide +kernel, by decide +kernel, by decide +kernel⟩, by decide +kernel, Or.inr ⟨rfl, List.mem_of_getElem? (i := 568) (by decide +kernel), List.mem_of_getElem? (i := 569) (by decide +kernel)⟩⟩
def xe55 : xME := (⟨"OverInDinghy$Club", "isHand", "(I)Z"⟩, prog_3_method_6_code, 2, (some .boolean), 2, 0, 1, 1)
set_option maxRecDepth 30000 in
theorem xm55 : mokE xe55 := Or.inr ⟨List.mem_of_getElem? (i := 574) rfl, ⟨List.mem_of_getElem? (i := 79) (by decide +kernel), by decide +kernel, by decide +kernel, by decide +kernel⟩, by decide +kernel, Or.inr ⟨rfl, List.mem_of_getElem? (i := 572) (by decide +kernel), List.mem_of_getElem? (i := 573) (by decide +kernel)⟩⟩
def xe56 : xME := (⟨"OverInDinghy$Club", "can", "(I)Z"⟩, prog_3_method_8_code, 2, (some .boolean), 2, 0, 1, 1)
set_option maxRecDepth 30000 in
theorem xm56 : mokE xe56 := Or.inr ⟨List.mem_of_getElem? (i := 578) rfl, ⟨List.mem_of_getElem? (i := 79) (by decide +kernel), by decide +kernel, by decide +kernel, by decide +kernel⟩, by decide +kernel, Or.inr ⟨rfl, List.mem_of_getElem? (i := 576) (by decide +kernel), List.mem_of_getElem? (i := 577) (by decide +kernel)⟩⟩
def xe57 : xME := (⟨"OverInDinghy$Club", "isOver", "(I)Z"⟩, prog_3_method_9_code, 2, (some .boolean), 2, 0, 1, 1)
set_option maxRecDepth 30000 in
theorem xm57 : mokE xe57 := Or.inr ⟨List.mem_of_getElem? (i := 582) rfl, ⟨List.mem_of_getElem? (i := 79) (by decide +kernel), by decide +kernel, by decide +kernel, by decide +kernel⟩, by decide +kernel, Or.inr ⟨rfl, List.mem_of_getElem? (i := 580) (by decide +kernel), List.mem_of_getElem? (i := 581) (by decide +kernel)⟩⟩
def xe58 : xME := (⟨"OverInDinghy", "tip", "(I)J"⟩, prog_1_method_10_code, 2, (some .long), 0, 2, 1, 1)
set_option maxRecDepth 30000 in
theorem xm58 : mokE xe58 := Or.inr ⟨List.mem_of_getElem? (i := 587) rfl, ⟨List.mem_of_getElem? (i := 75) (by decide +kernel), by decide +kernel, by decide +kernel, by decide +kernel⟩, by decide +kernel, Or.inr ⟨rfl, List.mem_of_getElem? (i := 585) (by decide +kernel), List.mem_of_getElem? (i := 586) (by decide +kernel)⟩⟩
def xe59 : xME := (⟨"OverInDinghy$Club", "isBoat", "(I)Z"⟩, prog_3_method_5_code, 2, (some .boolean), 2, 0, 1, 1)
set_option maxRecDepth 30000 in
theorem xm59 : mokE xe59 := Or.inr ⟨List.mem_of_getElem? (i := 591) rfl, ⟨List.mem_of_getElem? (i := 79) (by decide +kernel), by decide +kernel, by decide +kernel, by decide +kernel⟩, by decide +kernel, Or.inr ⟨rfl, List.mem_of_getElem? (i := 589) (by decide +kernel), List.mem_of_getElem? (i := 590) (by decide +kernel)⟩⟩
def xmt2 : List xME := [xe40, xe41, xe42, xe43, xe44, xe45, xe46, xe47, xe48, xe49, xe50, xe51, xe52, xe53, xe54, xe55, xe56, xe57, xe58, xe59]
theorem xmt2_ok : ∀ e ∈ xmt2, mokE e := List.forall_mem_cons.mpr ⟨xm40, List.forall_mem_cons.mpr ⟨xm41, List.forall_mem_cons.mpr ⟨xm42, List.forall_mem_cons.mpr ⟨xm43, List.forall_mem_cons.mpr ⟨xm44, List.forall_mem_cons.mpr ⟨xm45, List.forall_mem_cons.mpr ⟨xm46, List.forall_mem_cons.mpr ⟨xm47, List.forall_mem_cons.mpr ⟨xm48, List.forall_mem_cons.mpr ⟨xm49, List.forall_mem_cons.mpr ⟨xm50, List.forall_mem_cons.mpr ⟨xm51, List.forall_mem_cons.mpr ⟨xm52, List.forall_mem_cons.mpr ⟨xm53, List.forall_mem_cons.mpr ⟨xm54, List.forall_mem_cons.mpr ⟨xm55, List.forall_mem_cons.mpr ⟨xm56, List.forall_mem_cons.mpr ⟨xm57, List.forall_mem_cons.mpr ⟨xm58, List.forall_mem_cons.mpr ⟨xm59, fun _ h => absurd h List.not_mem_nil⟩⟩⟩⟩⟩⟩⟩⟩⟩⟩⟩⟩⟩⟩⟩⟩⟩⟩⟩⟩
def xe60 : xME := (⟨"OverInDinghy$Club", "capsize", "(I)V"⟩, prog_3_method_22_code, 2, none, 2, 1, 1, 1)
set_option maxRecDepth 30000 in
theorem xm60 : mokE xe60 := Or.inr ⟨List.mem_of_getElem? (i := 595) rfl, ⟨List.mem_of_getElem? (i := 79) (by decide +kernel), by decide +kernel, by decide +kernel, by decide +kernel⟩, by decide +kernel, Or.inr ⟨rfl, List.mem_of_getElem? (i := 593) (by decide +kernel), List.mem_of_getElem? (i := 594) (by decide +kernel)⟩⟩
def xe61 : xME := (⟨"OverInDinghy$Club", "sendAll", "(III)V"⟩, prog_3_method_26_code, 5, none, 2, 0, 3, 1)
set_option maxRecDepth 30000 in
theorem xm61 : mokE xe61 := Or.inr ⟨List.mem_of_getElem? (i := 599) rfl, ⟨List.mem_of_getElem? (i := 79) (by decide +kernel), by decide +kernel, by decide +kernel, by decide +kernel⟩, by decide +kernel, Or.inr ⟨rfl, List.mem_of_getElem? (i := 598) (by decide +kernel), List.mem_of_getElem? (i := 13) (by decide +kernel)⟩⟩
def xe62 : xME := (⟨"OverInDinghy", "go", "(II)J"⟩, prog_1_method_11_code, 4, (some .long), 0, 5, 2, 1)
set_option maxRecDepth 30000 in
theorem xm62 : mokE xe62 := Or.inr ⟨List.mem_of_getElem? (i := 603) rfl, ⟨List.mem_of_getElem? (i := 75) (by decide +kernel), by decide +kernel, by decide +kernel, by decide +kernel⟩, by decide +kernel, Or.inr ⟨rfl, List.mem_of_getElem? (i := 601) (by decide +kernel), List.mem_of_getElem? (i := 602) (by decide +kernel)⟩⟩
def xe63 : xME := (⟨"OverInDinghy$Club", "isNone", "()Z"⟩, prog_3_method_4_code, 1, (some .boolean), 2, 0, 0, 1)
set_option maxRecDepth 30000 in
theorem xm63 : mokE xe63 := Or.inr ⟨List.mem_of_getElem? (i := 607) rfl, ⟨List.mem_of_getElem? (i := 79) (by decide +kernel), by decide +kernel, by decide +kernel, by decide +kernel⟩, by decide +kernel, Or.inr ⟨rfl, List.mem_of_getElem? (i := 605) (by decide +kernel), List.mem_of_getElem? (i := 606) (by decide +kernel)⟩⟩
def xe64 : xME := (⟨"OverInDinghy$Draws", "begin", "(I)V"⟩, prog_4_method_2_code, 2, none, 3, 0, 1, 1)
set_option maxRecDepth 30000 in
theorem xm64 : mokE xe64 := Or.inr ⟨List.mem_of_getElem? (i := 612) rfl, ⟨List.mem_of_getElem? (i := 80) (by decide +kernel), by decide +kernel, by decide +kernel, by decide +kernel⟩, by decide +kernel, Or.inr ⟨rfl, List.mem_of_getElem? (i := 610) (by decide +kernel), List.mem_of_getElem? (i := 611) (by decide +kernel)⟩⟩
def xe65 : xME := (⟨"OverInDinghy$Club", "tick", "(LOverInDinghy$Draws;)V"⟩, prog_3_method_20_code, 3, none, 2, 4, 1, 1)
set_option maxRecDepth 30000 in
theorem xm65 : mokE xe65 := Or.inr ⟨List.mem_of_getElem? (i := 616) rfl, ⟨List.mem_of_getElem? (i := 79) (by decide +kernel), by decide +kernel, by decide +kernel, by decide +kernel⟩, by decide +kernel, Or.inr ⟨rfl, List.mem_of_getElem? (i := 614) (by decide +kernel), List.mem_of_getElem? (i := 615) (by decide +kernel)⟩⟩
def xe66 : xME := (⟨"OverInDinghy$Club", "tickBoat", "(ILOverInDinghy$Draws;)V"⟩, prog_3_method_21_code, 5, none, 2, 3, 2, 1)
set_option maxRecDepth 30000 in
theorem xm66 : mokE xe66 := Or.inr ⟨List.mem_of_getElem? (i := 620) rfl, ⟨List.mem_of_getElem? (i := 79) (by decide +kernel), by decide +kernel, by decide +kernel, by decide +kernel⟩, by decide +kernel, Or.inr ⟨rfl, List.mem_of_getElem? (i := 618) (by decide +kernel), List.mem_of_getElem? (i := 619) (by decide +kernel)⟩⟩
def xe67 : xME := (⟨"OverInDinghy$Club", "needNow", "(I)I"⟩, prog_3_method_16_code, 2, (some .int), 2, 1, 1, 1)
set_option maxRecDepth 30000 in
theorem xm67 : mokE xe67 := Or.inr ⟨List.mem_of_getElem? (i := 624) rfl, ⟨List.mem_of_getElem? (i := 79) (by decide +kernel), by decide +kernel, by decide +kernel, by decide +kernel⟩, by decide +kernel, Or.inr ⟨rfl, List.mem_of_getElem? (i := 622) (by decide +kernel), List.mem_of_getElem? (i := 623) (by decide +kernel)⟩⟩
def xe68 : xME := (⟨"OverInDinghy$Club", "ableAt", "(II)I"⟩, prog_3_method_12_code, 5, (some .int), 2, 0, 2, 1)
set_option maxRecDepth 30000 in
theorem xm68 : mokE xe68 := Or.inr ⟨List.mem_of_getElem? (i := 628) rfl, ⟨List.mem_of_getElem? (i := 79) (by decide +kernel), by decide +kernel, by decide +kernel, by decide +kernel⟩, by decide +kernel, Or.inr ⟨rfl, List.mem_of_getElem? (i := 626) (by decide +kernel), List.mem_of_getElem? (i := 627) (by decide +kernel)⟩⟩
def xe69 : xME := (⟨"OverInDinghy$Club", "need", "(IIZ)I"⟩, prog_3_method_14_code, 4, (some .int), 2, 0, 3, 1)
set_option maxRecDepth 30000 in
theorem xm69 : mokE xe69 := Or.inr ⟨List.mem_of_getElem? (i := 632) rfl, ⟨List.mem_of_getElem? (i := 79) (by decide +kernel), by decide +kernel, by decide +kernel, by decide +kernel⟩, by decide +kernel, Or.inr ⟨rfl, List.mem_of_getElem? (i := 630) (by decide +kernel), List.mem_of_getElem? (i := 631) (by decide +kernel)⟩⟩
def xe70 : xME := (⟨"OverInDinghy$Club", "leverNow", "(I)I"⟩, prog_3_method_17_code, 2, (some .int), 2, 1, 1, 1)
set_option maxRecDepth 30000 in
theorem xm70 : mokE xe70 := Or.inr ⟨List.mem_of_getElem? (i := 636) rfl, ⟨List.mem_of_getElem? (i := 79) (by decide +kernel), by decide +kernel, by decide +kernel, by decide +kernel⟩, by decide +kernel, Or.inr ⟨rfl, List.mem_of_getElem? (i := 634) (by decide +kernel), List.mem_of_getElem? (i := 635) (by decide +kernel)⟩⟩
def xe71 : xME := (⟨"OverInDinghy$Club", "ableWeightOnBoard", "(I)I"⟩, prog_3_method_13_code, 4, (some .int), 2, 0, 1, 1)
set_option maxRecDepth 30000 in
theorem xm71 : mokE xe71 := Or.inr ⟨List.mem_of_getElem? (i := 640) rfl, ⟨List.mem_of_getElem? (i := 79) (by decide +kernel), by decide +kernel, by decide +kernel, by decide +kernel⟩, by decide +kernel, Or.inr ⟨rfl, List.mem_of_getElem? (i := 638) (by decide +kernel), List.mem_of_getElem? (i := 639) (by decide +kernel)⟩⟩
def xe72 : xME := (⟨"OverInDinghy$Club", "lever", "(II)I"⟩, prog_3_method_15_code, 3, (some .int), 2, 0, 2, 1)
set_option maxRecDepth 30000 in
theorem xm72 : mokE xe72 := Or.inr ⟨List.mem_of_getElem? (i := 644) rfl, ⟨List.mem_of_getElem? (i := 79) (by decide +kernel), by decide +kernel, by decide +kernel, by decide +kernel⟩, by decide +kernel, Or.inr ⟨rfl, List.mem_of_getElem? (i := 642) (by decide +kernel), List.mem_of_getElem? (i := 643) (by decide +kernel)⟩⟩
def xe73 : xME := (⟨"OverInDinghy$Club", "comeUp", "(ILOverInDinghy$Draws;)V"⟩, prog_3_method_25_code, 3, none, 2, 2, 2, 1)
set_option maxRecDepth 30000 in
theorem xm73 : mokE xe73 := Or.inr ⟨List.mem_of_getElem? (i := 648) rfl, ⟨List.mem_of_getElem? (i := 79) (by decide +kernel), by decide +kernel, by decide +kernel, by decide +kernel⟩, by decide +kernel, Or.inr ⟨rfl, List.mem_of_getElem? (i := 647) (by decide +kernel), List.mem_of_getElem? (i := 14) (by decide +kernel)⟩⟩
def xe74 : xME := (⟨"OverInDinghy$Draws", "draw", "(I)J"⟩, prog_4_method_3_code, 2, (some .long), 3, 0, 1, 1)
set_option maxRecDepth 30000 in
theorem xm74 : mokE xe74 := Or.inr ⟨List.mem_of_getElem? (i := 652) rfl, ⟨List.mem_of_getElem? (i := 80) (by decide +kernel), by decide +kernel, by decide +kernel, by decide +kernel⟩, by decide +kernel, Or.inr ⟨rfl, List.mem_of_getElem? (i := 650) (by decide +kernel), List.mem_of_getElem? (i := 651) (by decide +kernel)⟩⟩
def xe75 : xME := (⟨"OverInDinghy$Club", "fillMast", "(I)V"⟩, prog_3_method_24_code, 2, none, 2, 0, 1, 1)
set_option maxRecDepth 30000 in
theorem xm75 : mokE xe75 := Or.inr ⟨List.mem_of_getElem? (i := 659) rfl, ⟨List.mem_of_getElem? (i := 79) (by decide +kernel), by decide +kernel, by decide +kernel, by decide +kernel⟩, by decide +kernel, Or.inr ⟨rfl, List.mem_of_getElem? (i := 658) (by decide +kernel), List.mem_of_getElem? (i := 15) (by decide +kernel)⟩⟩
def xe76 : xME := (⟨"java/lang/Math", "min", "(II)I"⟩, prog_13_method_69_code, 2, (some .int), 12, 0, 2, 2)
theorem xm76 : mokE xe76 := Or.inl rfl
def xe77 : xME := (⟨"OverInDinghy$Club", "rideOrBail", "(ILOverInDinghy$Draws;)V"⟩, prog_3_method_23_code, 4, none, 2, 2, 2, 1)
set_option maxRecDepth 30000 in
theorem xm77 : mokE xe77 := Or.inr ⟨List.mem_of_getElem? (i := 666) rfl, ⟨List.mem_of_getElem? (i := 79) (by decide +kernel), by decide +kernel, by decide +kernel, by decide +kernel⟩, by decide +kernel, Or.inr ⟨rfl, List.mem_of_getElem? (i := 665) (by decide +kernel), List.mem_of_getElem? (i := 16) (by decide +kernel)⟩⟩
def xe78 : xME := (⟨"OverInDinghy$Club", "weightIn", "(I)I"⟩, prog_3_method_11_code, 4, (some .int), 2, 0, 1, 1)
set_option maxRecDepth 30000 in
theorem xm78 : mokE xe78 := Or.inr ⟨List.mem_of_getElem? (i := 670) rfl, ⟨List.mem_of_getElem? (i := 79) (by decide +kernel), by decide +kernel, by decide +kernel, by decide +kernel⟩, by decide +kernel, Or.inr ⟨rfl, List.mem_of_getElem? (i := 668) (by decide +kernel), List.mem_of_getElem? (i := 669) (by decide +kernel)⟩⟩
def xe79 : xME := (⟨"java/lang/Math", "max", "(II)I"⟩, prog_13_method_65_code, 2, (some .int), 12, 0, 2, 2)
theorem xm79 : mokE xe79 := Or.inl rfl
def xmt3 : List xME := [xe60, xe61, xe62, xe63, xe64, xe65, xe66, xe67, xe68, xe69, xe70, xe71, xe72, xe73, xe74, xe75, xe76, xe77, xe78, xe79]
theorem xmt3_ok : ∀ e ∈ xmt3, mokE e := List.forall_mem_cons.mpr ⟨xm60, List.forall_mem_cons.mpr ⟨xm61, List.forall_mem_cons.mpr ⟨xm62, List.forall_mem_cons.mpr ⟨xm63, List.forall_mem_cons.mpr ⟨xm64, List.forall_mem_cons.mpr ⟨xm65, List.forall_mem_cons.mpr ⟨xm66, List.forall_mem_cons.mpr ⟨xm67, List.forall_mem_cons.mpr ⟨xm68, List.forall_mem_cons.mpr ⟨xm69, List.forall_mem_cons.mpr ⟨xm70, List.forall_mem_cons.mpr ⟨xm71, List.forall_mem_cons.mpr ⟨xm72, List.forall_mem_cons.mpr ⟨xm73, List.forall_mem_cons.mpr ⟨xm74, List.forall_mem_cons.mpr ⟨xm75, List.forall_mem_cons.mpr ⟨xm76, List.forall_mem_cons.mpr ⟨xm77, List.forall_mem_cons.mpr ⟨xm78, List.forall_mem_cons.mpr ⟨xm79, fun _ h => absurd h List.not_mem_nil⟩⟩⟩⟩⟩⟩⟩⟩⟩⟩⟩⟩⟩⟩⟩⟩⟩⟩⟩⟩
def xe80 : xME := (⟨"OverInDinghy$Club", "chill", "(I)V"⟩, prog_3_method_27_code, 3, none, 2, 1, 1, 1)
set_option maxRecDepth 30000 in
theorem xm80 : mokE xe80 := Or.inr ⟨List.mem_of_getElem? (i := 677) rfl, ⟨List.mem_of_getElem? (i := 79) (by decide +kernel), by decide +kernel, by decide +kernel, by decide +kernel⟩, by decide +kernel, Or.inr ⟨rfl, List.mem_of_getElem? (i := 676) (by decide +kernel), List.mem_of_getElem? (i := 17) (by decide +kernel)⟩⟩
def xe81 : xME := (⟨"OverInDinghy$Club", "chillOf", "(I)I"⟩, prog_3_method_28_code, 4, (some .int), 2, 0, 1, 1)
set_option maxRecDepth 30000 in
theorem xm81 : mokE xe81 := Or.inr ⟨List.mem_of_getElem? (i := 681) rfl, ⟨List.mem_of_getElem? (i := 79) (by decide +kernel), by decide +kernel, by decide +kernel, by decide +kernel⟩, by decide +kernel, Or.inr ⟨rfl, List.mem_of_getElem? (i := 679) (by decide +kernel), List.mem_of_getElem? (i := 680) (by decide +kernel)⟩⟩
def xe82 : xME := (⟨"OverInDinghy", "boat", "(II)J"⟩, prog_1_method_12_code, 3, (some .long), 0, 2, 2, 1)
set_option maxRecDepth 30000 in
theorem xm82 : mokE xe82 := Or.inr ⟨List.mem_of_getElem? (i := 685) rfl, ⟨List.mem_of_getElem? (i := 75) (by decide +kernel), by decide +kernel, by decide +kernel, by decide +kernel⟩, by decide +kernel, Or.inr ⟨rfl, List.mem_of_getElem? (i := 683) (by decide +kernel), List.mem_of_getElem? (i := 684) (by decide +kernel)⟩⟩
def xe83 : xME := (⟨"OverInDinghy", "hand", "(II)J"⟩, prog_1_method_13_code, 3, (some .long), 0, 1, 2, 1)
set_option maxRecDepth 30000 in
theorem xm83 : mokE xe83 := Or.inr ⟨List.mem_of_getElem? (i := 692) rfl, ⟨List.mem_of_getElem? (i := 75) (by decide +kernel), by decide +kernel, by decide +kernel, by decide +kernel⟩, by decide +kernel, Or.inr ⟨rfl, List.mem_of_getElem? (i := 690) (by decide +kernel), List.mem_of_getElem? (i := 691) (by decide +kernel)⟩⟩
def xe84 : xME := (⟨"OverInDinghy", "rights", "(IIII)J"⟩, prog_1_method_14_code, 5, (some .long), 0, 3, 4, 1)
set_option maxRecDepth 30000 in
theorem xm84 : mokE xe84 := Or.inr ⟨List.mem_of_getElem? (i := 696) rfl, ⟨List.mem_of_getElem? (i := 75) (by decide +kernel), by decide +kernel, by decide +kernel, by decide +kernel⟩, by decide +kernel, Or.inr ⟨rfl, List.mem_of_getElem? (i := 694) (by decide +kernel), List.mem_of_getElem? (i := 695) (by decide +kernel)⟩⟩
def xe85 : xME := (⟨"OverInDinghy$Club", "isHandOf", "(II)Z"⟩, prog_3_method_7_code, 3, (some .boolean), 2, 1, 2, 1)
set_option maxRecDepth 30000 in
theorem xm85 : mokE xe85 := Or.inr ⟨List.mem_of_getElem? (i := 700) rfl, ⟨List.mem_of_getElem? (i := 79) (by decide +kernel), by decide +kernel, by decide +kernel, by decide +kernel⟩, by decide +kernel, Or.inr ⟨rfl, List.mem_of_getElem? (i := 698) (by decide +kernel), List.mem_of_getElem? (i := 699) (by decide +kernel)⟩⟩
def xe86 : xME := (⟨"OverInDinghy$Foretold", "enough", "(LOverInDinghy$Club;IIII)J"⟩, prog_5_method_2_code, 10, (some .long), 4, 2, 5, 0)
set_option maxRecDepth 30000 in
theorem xm86 : mokE xe86 := Or.inr ⟨List.mem_of_getElem? (i := 704) rfl, ⟨List.mem_of_getElem? (i := 91) (by decide +kernel), by decide +kernel, by decide +kernel, by decide +kernel⟩, by decide +kernel, Or.inl ⟨rfl, List.mem_of_getElem? (i := 703) (by decide +kernel)⟩⟩
def xe87 : xME := (⟨"OverInDinghy$Foretold", "ableBits", "(LOverInDinghy$Club;II)I"⟩, prog_5_method_3_code, 5, (some .int), 4, 1, 3, 0)
set_option maxRecDepth 30000 in
theorem xm87 : mokE xe87 := Or.inr ⟨List.mem_of_getElem? (i := 708) rfl, ⟨List.mem_of_getElem? (i := 91) (by decide +kernel), by decide +kernel, by decide +kernel, by decide +kernel⟩, by decide +kernel, Or.inl ⟨rfl, List.mem_of_getElem? (i := 707) (by decide +kernel)⟩⟩
def xe88 : xME := (⟨"OverInDinghy$Foretold", "weightOf", "(LOverInDinghy$Club;I)I"⟩, prog_5_method_4_code, 4, (some .int), 4, 0, 2, 0)
set_option maxRecDepth 30000 in
theorem xm88 : mokE xe88 := Or.inr ⟨List.mem_of_getElem? (i := 712) rfl, ⟨List.mem_of_getElem? (i := 91) (by decide +kernel), by decide +kernel, by decide +kernel, by decide +kernel⟩, by decide +kernel, Or.inl ⟨rfl, List.mem_of_getElem? (i := 711) (by decide +kernel)⟩⟩
def xe89 : xME := (⟨"OverInDinghy", "lightest", "(I)J"⟩, prog_1_method_15_code, 2, (some .long), 0, 2, 1, 1)
set_option maxRecDepth 30000 in
theorem xm89 : mokE xe89 := Or.inr ⟨List.mem_of_getElem? (i := 718) rfl, ⟨List.mem_of_getElem? (i := 75) (by decide +kernel), by decide +kernel, by decide +kernel, by decide +kernel⟩, by decide +kernel, Or.inr ⟨rfl, List.mem_of_getElem? (i := 716) (by decide +kernel), List.mem_of_getElem? (i := 717) (by decide +kernel)⟩⟩
def xe90 : xME := (⟨"OverInDinghy$Foretold", "leastWeight", "(LOverInDinghy$Club;I)I"⟩, prog_5_method_5_code, 4, (some .int), 4, 1, 2, 0)
set_option maxRecDepth 30000 in
theorem xm90 : mokE xe90 := Or.inr ⟨List.mem_of_getElem? (i := 721) rfl, ⟨List.mem_of_getElem? (i := 91) (by decide +kernel), by decide +kernel, by decide +kernel, by decide +kernel⟩, by decide +kernel, Or.inl ⟨rfl, List.mem_of_getElem? (i := 720) (by decide +kernel)⟩⟩
def xe91 : xME := (⟨"OverInDinghy", "round", "(I)J"⟩, prog_1_method_16_code, 2, (some .long), 0, 2, 1, 1)
set_option maxRecDepth 30000 in
theorem xm91 : mokE xe91 := Or.inr ⟨List.mem_of_getElem? (i := 726) rfl, ⟨List.mem_of_getElem? (i := 75) (by decide +kernel), by decide +kernel, by decide +kernel, by decide +kernel⟩, by decide +kernel, Or.inr ⟨rfl, List.mem_of_getElem? (i := 724) (by decide +kernel), List.mem_of_getElem? (i := 725) (by decide +kernel)⟩⟩
def xe92 : xME := (⟨"OverInDinghy$Foretold", "ticksTillRound", "(I)I"⟩, prog_5_method_6_code, 1, (some .int), 4, 1, 1, 0)
set_option maxRecDepth 30000 in
theorem xm92 : mokE xe92 := Or.inr ⟨List.mem_of_getElem? (i := 729) rfl, ⟨List.mem_of_getElem? (i := 91) (by decide +kernel), by decide +kernel, by decide +kernel, by decide +kernel⟩, by decide +kernel, Or.inl ⟨rfl, List.mem_of_getElem? (i := 728) (by decide +kernel)⟩⟩
def xe93 : xME := (⟨"OverInDinghy$Foretold", "upTo", "(II)I"⟩, prog_5_method_7_code, 2, (some .int), 4, 0, 2, 0)
set_option maxRecDepth 30000 in
theorem xm93 : mokE xe93 := Or.inr ⟨List.mem_of_getElem? (i := 732) rfl, ⟨List.mem_of_getElem? (i := 91) (by decide +kernel), by decide +kernel, by decide +kernel, by decide +kernel⟩, by decide +kernel, Or.inl ⟨rfl, List.mem_of_getElem? (i := 731) (by decide +kernel)⟩⟩
def xe94 : xME := (⟨"OverInDinghy", "quickest", "(II)J"⟩, prog_1_method_17_code, 3, (some .long), 0, 7, 2, 1)
set_option maxRecDepth 30000 in
theorem xm94 : mokE xe94 := Or.inr ⟨List.mem_of_getElem? (i := 736) rfl, ⟨List.mem_of_getElem? (i := 75) (by decide +kernel), by decide +kernel, by decide +kernel, by decide +kernel⟩, by decide +kernel, Or.inr ⟨rfl, List.mem_of_getElem? (i := 734) (by decide +kernel), List.mem_of_getElem? (i := 735) (by decide +kernel)⟩⟩
def xe95 : xME := (⟨"OverInDinghy$Search", "look", "(LOverInDinghy$Club;I)V"⟩, prog_10_method_2_code, 4, none, 9, 6, 2, 1)
set_option maxRecDepth 30000 in
theorem xm95 : mokE xe95 := Or.inr ⟨List.mem_of_getElem? (i := 740) rfl, ⟨List.mem_of_getElem? (i := 81) (by decide +kernel), by decide +kernel, by decide +kernel, by decide +kernel⟩, by decide +kernel, Or.inr ⟨rfl, List.mem_of_getElem? (i := 738) (by decide +kernel), List.mem_of_getElem? (i := 739) (by decide +kernel)⟩⟩
def xe96 : xME := (⟨"OverInDinghy$Search", "nextAble", "(LOverInDinghy$Club;II)I"⟩, prog_10_method_4_code, 4, (some .int), 9, 2, 3, 0)
set_option maxRecDepth 30000 in
theorem xm96 : mokE xe96 := Or.inr ⟨List.mem_of_getElem? (i := 744) rfl, ⟨List.mem_of_getElem? (i := 81) (by decide +kernel), by decide +kernel, by decide +kernel, by decide +kernel⟩, by decide +kernel, Or.inl ⟨rfl, List.mem_of_getElem? (i := 743) (by decide +kernel)⟩⟩
def xe97 : xME := (⟨"OverInDinghy$Search", "tryFirst", "(II)V"⟩, prog_10_method_5_code, 4, none, 9, 5, 2, 1)
set_option maxRecDepth 30000 in
theorem xm97 : mokE xe97 := Or.inr ⟨List.mem_of_getElem? (i := 751) rfl, ⟨List.mem_of_getElem? (i := 81) (by decide +kernel), by decide +kernel, by decide +kernel, by decide +kernel⟩, by decide +kernel, Or.inr ⟨rfl, List.mem_of_getElem? (i := 750) (by decide +kernel), List.mem_of_getElem? (i := 18) (by decide +kernel)⟩⟩
def xe98 : xME := (⟨"OverInDinghy$Search", "goOn", "(II)V"⟩, prog_10_method_6_code, 3, none, 9, 4, 2, 1)
set_option maxRecDepth 30000 in
theorem xm98 : mokE xe98 := Or.inr ⟨List.mem_of_getElem? (i := 755) rfl, ⟨List.mem_of_getElem? (i := 81) (by decide +kernel), by decide +kernel, by decide +kernel, by decide +kernel⟩, by decide +kernel, Or.inr ⟨rfl, List.mem_of_getElem? (i := 754) (by decide +kernel), List.mem_of_getElem? (i := 19) (by decide +kernel)⟩⟩
def xe99 : xME := (⟨"OverInDinghy", "<init>", "()V"⟩, prog_1_method_1_code, 1, none, 0, 0, 0, 2)
theorem xm99 : mokE xe99 := Or.inl rfl
def xmt4 : List xME := [xe80, xe81, xe82, xe83, xe84, xe85, xe86, xe87, xe88, xe89, xe90, xe91, xe92, xe93, xe94, xe95, xe96, xe97, xe98, xe99]
theorem xmt4_ok : ∀ e ∈ xmt4, mokE e := List.forall_mem_cons.mpr ⟨xm80, List.forall_mem_cons.mpr ⟨xm81, List.forall_mem_cons.mpr ⟨xm82, List.forall_mem_cons.mpr ⟨xm83, List.forall_mem_cons.mpr ⟨xm84, List.forall_mem_cons.mpr ⟨xm85, List.forall_mem_cons.mpr ⟨xm86, List.forall_mem_cons.mpr ⟨xm87, List.forall_mem_cons.mpr ⟨xm88, List.forall_mem_cons.mpr ⟨xm89, List.forall_mem_cons.mpr ⟨xm90, List.forall_mem_cons.mpr ⟨xm91, List.forall_mem_cons.mpr ⟨xm92, List.forall_mem_cons.mpr ⟨xm93, List.forall_mem_cons.mpr ⟨xm94, List.forall_mem_cons.mpr ⟨xm95, List.forall_mem_cons.mpr ⟨xm96, List.forall_mem_cons.mpr ⟨xm97, List.forall_mem_cons.mpr ⟨xm98, List.forall_mem_cons.mpr ⟨xm99, fun _ h => absurd h List.not_mem_nil⟩⟩⟩⟩⟩⟩⟩⟩⟩⟩⟩⟩⟩⟩⟩⟩⟩⟩⟩⟩
def xe100 : xME := (⟨"OverInDinghy", "<init>", "()V"⟩, prog_1_method_1_code, 1, none, 0, 0, 0, 2)
theorem xm100 : mokE xe100 := Or.inl rfl
def xe101 : xME := (⟨"OverInDinghy", "<init>", "()V"⟩, prog_1_method_1_code, 1, none, 0, 0, 0, 2)
theorem xm101 : mokE xe101 := Or.inl rfl
def xe102 : xME := (⟨"OverInDinghy", "<init>", "()V"⟩, prog_1_method_1_code, 1, none, 0, 0, 0, 2)
theorem xm102 : mokE xe102 := Or.inl rfl
def xe103 : xME := (⟨"OverInDinghy$Search", "send", "(III)V"⟩, prog_10_method_7_code, 4, none, 9, 1, 3, 1)
set_option maxRecDepth 30000 in
theorem xm103 : mokE xe103 := Or.inr ⟨List.mem_of_getElem? (i := 759) rfl, ⟨List.mem_of_getElem? (i := 81) (by decide +kernel), by decide +kernel, by decide +kernel, by decide +kernel⟩, by decide +kernel, Or.inr ⟨rfl, List.mem_of_getElem? (i := 758) (by decide +kernel), List.mem_of_getElem? (i := 20) (by decide +kernel)⟩⟩
def xe104 : xME := (⟨"OverInDinghy$Search", "ticks", "()I"⟩, prog_10_method_3_code, 1, (some .int), 9, 0, 0, 1)
set_option maxRecDepth 30000 in
theorem xm104 : mokE xe104 := Or.inr ⟨List.mem_of_getElem? (i := 765) rfl, ⟨List.mem_of_getElem? (i := 81) (by decide +kernel), by decide +kernel, by decide +kernel, by decide +kernel⟩, by decide +kernel, Or.inr ⟨rfl, List.mem_of_getElem? (i := 763) (by decide +kernel), List.mem_of_getElem? (i := 764) (by decide +kernel)⟩⟩
def xe105 : xME := (⟨"OverInDinghy", "tries", "(II)J"⟩, prog_1_method_18_code, 3, (some .long), 0, 1, 2, 1)
set_option maxRecDepth 30000 in
theorem xm105 : mokE xe105 := Or.inr ⟨List.mem_of_getElem? (i := 769) rfl, ⟨List.mem_of_getElem? (i := 75) (by decide +kernel), by decide +kernel, by decide +kernel, by decide +kernel⟩, by decide +kernel, Or.inr ⟨rfl, List.mem_of_getElem? (i := 767) (by decide +kernel), List.mem_of_getElem? (i := 768) (by decide +kernel)⟩⟩
def xe106 : xME := (⟨"OverInDinghy", "airs", "(I)J"⟩, prog_1_method_19_code, 2, (some .long), 0, 4, 1, 1)
set_option maxRecDepth 30000 in
theorem xm106 : mokE xe106 := Or.inr ⟨List.mem_of_getElem? (i := 775) rfl, ⟨List.mem_of_getElem? (i := 75) (by decide +kernel), by decide +kernel, by decide +kernel, by decide +kernel⟩, by decide +kernel, Or.inr ⟨rfl, List.mem_of_getElem? (i := 773) (by decide +kernel), List.mem_of_getElem? (i := 774) (by decide +kernel)⟩⟩
def xe107 : xME := (⟨"OverInDinghy$Foretold", "bestAirs", "(I)I"⟩, prog_5_method_8_code, 3, (some .int), 4, 3, 1, 0)
set_option maxRecDepth 30000 in
theorem xm107 : mokE xe107 := Or.inr ⟨List.mem_of_getElem? (i := 778) rfl, ⟨List.mem_of_getElem? (i := 91) (by decide +kernel), by decide +kernel, by decide +kernel, by decide +kernel⟩, by decide +kernel, Or.inl ⟨rfl, List.mem_of_getElem? (i := 777) (by decide +kernel)⟩⟩
def xe108 : xME := (⟨"OverInDinghy$Foretold", "isBeaten", "(II)Z"⟩, prog_5_method_9_code, 3, (some .boolean), 4, 2, 2, 0)
set_option maxRecDepth 30000 in
theorem xm108 : mokE xe108 := Or.inr ⟨List.mem_of_getElem? (i := 781) rfl, ⟨List.mem_of_getElem? (i := 91) (by decide +kernel), by decide +kernel, by decide +kernel, by decide +kernel⟩, by decide +kernel, Or.inl ⟨rfl, List.mem_of_getElem? (i := 780) (by decide +kernel)⟩⟩
def xe109 : xME := (⟨"OverInDinghy$Foretold", "bails", "(II)I"⟩, prog_5_method_10_code, 2, (some .int), 4, 1, 2, 0)
set_option maxRecDepth 30000 in
theorem xm109 : mokE xe109 := Or.inr ⟨List.mem_of_getElem? (i := 784) rfl, ⟨List.mem_of_getElem? (i := 91) (by decide +kernel), by decide +kernel, by decide +kernel, by decide +kernel⟩, by decide +kernel, Or.inl ⟨rfl, List.mem_of_getElem? (i := 783) (by decide +kernel)⟩⟩
def xe110 : xME := (⟨"OverInDinghy", "first", "(IIII)J"⟩, prog_1_method_20_code, 5, (some .long), 0, 2, 4, 1)
set_option maxRecDepth 30000 in
theorem xm110 : mokE xe110 := Or.inr ⟨List.mem_of_getElem? (i := 788) rfl, ⟨List.mem_of_getElem? (i := 75) (by decide +kernel), by decide +kernel, by decide +kernel, by decide +kernel⟩, by decide +kernel, Or.inr ⟨rfl, List.mem_of_getElem? (i := 786) (by decide +kernel), List.mem_of_getElem? (i := 787) (by decide +kernel)⟩⟩
def xe111 : xME := (⟨"OverInDinghy$Rows", "within", "(III)Z"⟩, prog_9_method_9_code, 5, (some .boolean), 8, 1, 3, 1)
set_option maxRecDepth 30000 in
theorem xm111 : mokE xe111 := Or.inr ⟨List.mem_of_getElem? (i := 792) rfl, ⟨List.mem_of_getElem? (i := 76) (by decide +kernel), by decide +kernel, by decide +kernel, by decide +kernel⟩, by decide +kernel, Or.inr ⟨rfl, List.mem_of_getElem? (i := 790) (by decide +kernel), List.mem_of_getElem? (i := 791) (by decide +kernel)⟩⟩
def xe112 : xME := (⟨"OverInDinghy$Rows", "item", "(II)I"⟩, prog_9_method_6_code, 3, (some .int), 8, 0, 2, 1)
set_option maxRecDepth 30000 in
theorem xm112 : mokE xe112 := Or.inr ⟨List.mem_of_getElem? (i := 796) rfl, ⟨List.mem_of_getElem? (i := 76) (by decide +kernel), by decide +kernel, by decide +kernel, by decide +kernel⟩, by decide +kernel, Or.inr ⟨rfl, List.mem_of_getElem? (i := 794) (by decide +kernel), List.mem_of_getElem? (i := 795) (by decide +kernel)⟩⟩
def xe113 : xME := (⟨"OverInDinghy$Rescue", "plan", "(LOverInDinghy$Rows;III)V"⟩, prog_8_method_2_code, 6, none, 7, 1, 4, 1)
set_option maxRecDepth 30000 in
theorem xm113 : mokE xe113 := Or.inr ⟨List.mem_of_getElem? (i := 800) rfl, ⟨List.mem_of_getElem? (i := 82) (by decide +kernel), by decide +kernel, by decide +kernel, by decide +kernel⟩, by decide +kernel, Or.inr ⟨rfl, List.mem_of_getElem? (i := 798) (by decide +kernel), List.mem_of_getElem? (i := 799) (by decide +kernel)⟩⟩
def xe114 : xME := (⟨"OverInDinghy$Rescue", "insert", "(I)V"⟩, prog_8_method_3_code, 3, none, 7, 0, 1, 1)
set_option maxRecDepth 30000 in
theorem xm114 : mokE xe114 := Or.inr ⟨List.mem_of_getElem? (i := 805) rfl, ⟨List.mem_of_getElem? (i := 82) (by decide +kernel), by decide +kernel, by decide +kernel, by decide +kernel⟩, by decide +kernel, Or.inr ⟨rfl, List.mem_of_getElem? (i := 804) (by decide +kernel), List.mem_of_getElem? (i := 21) (by decide +kernel)⟩⟩
def xe115 : xME := (⟨"OverInDinghy$Rescue", "sortPair", "(I)V"⟩, prog_8_method_4_code, 3, none, 7, 0, 1, 1)
set_option maxRecDepth 30000 in
theorem xm115 : mokE xe115 := Or.inr ⟨List.mem_of_getElem? (i := 809) rfl, ⟨List.mem_of_getElem? (i := 82) (by decide +kernel), by decide +kernel, by decide +kernel, by decide +kernel⟩, by decide +kernel, Or.inr ⟨rfl, List.mem_of_getElem? (i := 808) (by decide +kernel), List.mem_of_getElem? (i := 22) (by decide +kernel)⟩⟩
def xe116 : xME := (⟨"OverInDinghy$Rescue", "waited", "(II)I"⟩, prog_8_method_5_code, 6, (some .int), 7, 0, 2, 1)
set_option maxRecDepth 30000 in
theorem xm116 : mokE xe116 := Or.inr ⟨List.mem_of_getElem? (i := 813) rfl, ⟨List.mem_of_getElem? (i := 82) (by decide +kernel), by decide +kernel, by decide +kernel, by decide +kernel⟩, by decide +kernel, Or.inr ⟨rfl, List.mem_of_getElem? (i := 811) (by decide +kernel), List.mem_of_getElem? (i := 812) (by decide +kernel)⟩⟩
def xe117 : xME := (⟨"OverInDinghy", "over", "(IIII)J"⟩, prog_1_method_21_code, 11, (some .long), 0, 2, 4, 1)
set_option maxRecDepth 30000 in
theorem xm117 : mokE xe117 := Or.inr ⟨List.mem_of_getElem? (i := 818) rfl, ⟨List.mem_of_getElem? (i := 75) (by decide +kernel), by decide +kernel, by decide +kernel, by decide +kernel⟩, by decide +kernel, Or.inr ⟨rfl, List.mem_of_getElem? (i := 816) (by decide +kernel), List.mem_of_getElem? (i := 817) (by decide +kernel)⟩⟩
def xe118 : xME := (⟨"OverInDinghy$Odds", "areBoats", "(II)Z"⟩, prog_6_method_2_code, 2, (some .boolean), 5, 0, 2, 0)
set_option maxRecDepth 30000 in
theorem xm118 : mokE xe118 := Or.inr ⟨List.mem_of_getElem? (i := 821) rfl, ⟨List.mem_of_getElem? (i := 92) (by decide +kernel), by decide +kernel, by decide +kernel, by decide +kernel⟩, by decide +kernel, Or.inl ⟨rfl, List.mem_of_getElem? (i := 820) (by decide +kernel)⟩⟩
def xe119 : xME := (⟨"OverInDinghy$Odds", "above", "(III)J"⟩, prog_6_method_3_code, 6, (some .long), 5, 1, 3, 0)
set_option maxRecDepth 30000 in
theorem xm119 : mokE xe119 := Or.inr ⟨List.mem_of_getElem? (i := 824) rfl, ⟨List.mem_of_getElem? (i := 92) (by decide +kernel), by decide +kernel, by decide +kernel, by decide +kernel⟩, by decide +kernel, Or.inl ⟨rfl, List.mem_of_getElem? (i := 823) (by decide +kernel)⟩⟩
def xmt5 : List xME := [xe100, xe101, xe102, xe103, xe104, xe105, xe106, xe107, xe108, xe109, xe110, xe111, xe112, xe113, xe114, xe115, xe116, xe117, xe118, xe119]
theorem xmt5_ok : ∀ e ∈ xmt5, mokE e := List.forall_mem_cons.mpr ⟨xm100, List.forall_mem_cons.mpr ⟨xm101, List.forall_mem_cons.mpr ⟨xm102, List.forall_mem_cons.mpr ⟨xm103, List.forall_mem_cons.mpr ⟨xm104, List.forall_mem_cons.mpr ⟨xm105, List.forall_mem_cons.mpr ⟨xm106, List.forall_mem_cons.mpr ⟨xm107, List.forall_mem_cons.mpr ⟨xm108, List.forall_mem_cons.mpr ⟨xm109, List.forall_mem_cons.mpr ⟨xm110, List.forall_mem_cons.mpr ⟨xm111, List.forall_mem_cons.mpr ⟨xm112, List.forall_mem_cons.mpr ⟨xm113, List.forall_mem_cons.mpr ⟨xm114, List.forall_mem_cons.mpr ⟨xm115, List.forall_mem_cons.mpr ⟨xm116, List.forall_mem_cons.mpr ⟨xm117, List.forall_mem_cons.mpr ⟨xm118, List.forall_mem_cons.mpr ⟨xm119, fun _ h => absurd h List.not_mem_nil⟩⟩⟩⟩⟩⟩⟩⟩⟩⟩⟩⟩⟩⟩⟩⟩⟩⟩⟩⟩
def xe120 : xME := (⟨"OverInDinghy$Odds", "ways", "(II)J"⟩, prog_6_method_4_code, 5, (some .long), 5, 0, 2, 0)
set_option maxRecDepth 30000 in
theorem xm120 : mokE xe120 := Or.inr ⟨List.mem_of_getElem? (i := 827) rfl, ⟨List.mem_of_getElem? (i := 92) (by decide +kernel), by decide +kernel, by decide +kernel, by decide +kernel⟩, by decide +kernel, Or.inl ⟨rfl, List.mem_of_getElem? (i := 826) (by decide +kernel)⟩⟩
def xe121 : xME := (⟨"OverInDinghy$Odds", "power", "(JI)J"⟩, prog_6_method_5_code, 6, (some .long), 5, 0, 2, 0)
set_option maxRecDepth 30000 in
theorem xm121 : mokE xe121 := Or.inr ⟨List.mem_of_getElem? (i := 830) rfl, ⟨List.mem_of_getElem? (i := 92) (by decide +kernel), by decide +kernel, by decide +kernel, by decide +kernel⟩, by decide +kernel, Or.inl ⟨rfl, List.mem_of_getElem? (i := 829) (by decide +kernel)⟩⟩
def xe122 : xME := (⟨"OverInDinghy$Odds", "divisor", "(JJ)J"⟩, prog_6_method_6_code, 11, (some .long), 5, 0, 2, 0)
set_option maxRecDepth 30000 in
theorem xm122 : mokE xe122 := Or.inr ⟨List.mem_of_getElem? (i := 835) rfl, ⟨List.mem_of_getElem? (i := 92) (by decide +kernel), by decide +kernel, by decide +kernel, by decide +kernel⟩, by decide +kernel, Or.inl ⟨rfl, List.mem_of_getElem? (i := 834) (by decide +kernel)⟩⟩
def xe123 : xME := (⟨"OverInDinghy", "staysIn", "(III)J"⟩, prog_1_method_22_code, 5, (some .long), 0, 2, 3, 1)
set_option maxRecDepth 30000 in
theorem xm123 : mokE xe123 := Or.inr ⟨List.mem_of_getElem? (i := 839) rfl, ⟨List.mem_of_getElem? (i := 75) (by decide +kernel), by decide +kernel, by decide +kernel, by decide +kernel⟩, by decide +kernel, Or.inr ⟨rfl, List.mem_of_getElem? (i := 837) (by decide +kernel), List.mem_of_getElem? (i := 838) (by decide +kernel)⟩⟩
def xe124 : xME := (⟨"OverInDinghy", "heads", "(II)J"⟩, prog_1_method_23_code, 3, (some .long), 0, 2, 2, 1)
set_option maxRecDepth 30000 in
theorem xm124 : mokE xe124 := Or.inr ⟨List.mem_of_getElem? (i := 844) rfl, ⟨List.mem_of_getElem? (i := 75) (by decide +kernel), by decide +kernel, by decide +kernel, by decide +kernel⟩, by decide +kernel, Or.inr ⟨rfl, List.mem_of_getElem? (i := 842) (by decide +kernel), List.mem_of_getElem? (i := 843) (by decide +kernel)⟩⟩
def xe125 : xME := (⟨"OverInDinghy$Foretold", "balance", "(LOverInDinghy$Rows;III)I"⟩, prog_5_method_11_code, 8, (some .int), 4, 1, 4, 0)
set_option maxRecDepth 30000 in
theorem xm125 : mokE xe125 := Or.inr ⟨List.mem_of_getElem? (i := 847) rfl, ⟨List.mem_of_getElem? (i := 91) (by decide +kernel), by decide +kernel, by decide +kernel, by decide +kernel⟩, by decide +kernel, Or.inl ⟨rfl, List.mem_of_getElem? (i := 846) (by decide +kernel)⟩⟩
def xe126 : xME := (⟨"OverInDinghy", "image", "(I)J"⟩, prog_1_method_24_code, 2, (some .long), 0, 1, 1, 1)
set_option maxRecDepth 30000 in
theorem xm126 : mokE xe126 := Or.inr ⟨List.mem_of_getElem? (i := 852) rfl, ⟨List.mem_of_getElem? (i := 75) (by decide +kernel), by decide +kernel, by decide +kernel, by decide +kernel⟩, by decide +kernel, Or.inr ⟨rfl, List.mem_of_getElem? (i := 850) (by decide +kernel), List.mem_of_getElem? (i := 851) (by decide +kernel)⟩⟩
def xe127 : xME := (⟨"OverInDinghy", "imageOf", "(I)LOverInDinghy$Club;"⟩, prog_1_method_34_code, 2, (some (.object "OverInDinghy$Club")), 0, 0, 1, 1)
set_option maxRecDepth 30000 in
theorem xm127 : mokE xe127 := Or.inr ⟨List.mem_of_getElem? (i := 856) rfl, ⟨List.mem_of_getElem? (i := 75) (by decide +kernel), by decide +kernel, by decide +kernel, by decide +kernel⟩, by decide +kernel, Or.inr ⟨rfl, List.mem_of_getElem? (i := 855) (by decide +kernel), List.mem_of_getElem? (i := 23) (by decide +kernel)⟩⟩
def xe128 : xME := (⟨"OverInDinghy", "restore", "(I)J"⟩, prog_1_method_25_code, 2, (some .long), 0, 1, 1, 1)
set_option maxRecDepth 30000 in
theorem xm128 : mokE xe128 := Or.inr ⟨List.mem_of_getElem? (i := 860) rfl, ⟨List.mem_of_getElem? (i := 75) (by decide +kernel), by decide +kernel, by decide +kernel, by decide +kernel⟩, by decide +kernel, Or.inr ⟨rfl, List.mem_of_getElem? (i := 858) (by decide +kernel), List.mem_of_getElem? (i := 859) (by decide +kernel)⟩⟩
def xe129 : xME := (⟨"OverInDinghy", "kind", "(I)J"⟩, prog_1_method_26_code, 2, (some .long), 0, 1, 1, 1)
set_option maxRecDepth 30000 in
theorem xm129 : mokE xe129 := Or.inr ⟨List.mem_of_getElem? (i := 864) rfl, ⟨List.mem_of_getElem? (i := 75) (by decide +kernel), by decide +kernel, by decide +kernel, by decide +kernel⟩, by decide +kernel, Or.inr ⟨rfl, List.mem_of_getElem? (i := 862) (by decide +kernel), List.mem_of_getElem? (i := 863) (by decide +kernel)⟩⟩
def xe130 : xME := (⟨"OverInDinghy$Asks", "kindOf", "(I)I"⟩, prog_2_method_2_code, 1, (some .int), 1, 0, 1, 0)
set_option maxRecDepth 30000 in
theorem xm130 : mokE xe130 := Or.inr ⟨List.mem_of_getElem? (i := 867) rfl, ⟨List.mem_of_getElem? (i := 83) (by decide +kernel), by decide +kernel, by decide +kernel, by decide +kernel⟩, by decide +kernel, Or.inl ⟨rfl, List.mem_of_getElem? (i := 866) (by decide +kernel)⟩⟩
def xe131 : xME := (⟨"OverInDinghy", "as", "(II)J"⟩, prog_1_method_27_code, 3, (some .long), 0, 2, 2, 1)
set_option maxRecDepth 30000 in
theorem xm131 : mokE xe131 := Or.inr ⟨List.mem_of_getElem? (i := 871) rfl, ⟨List.mem_of_getElem? (i := 75) (by decide +kernel), by decide +kernel, by decide +kernel, by decide +kernel⟩, by decide +kernel, Or.inr ⟨rfl, List.mem_of_getElem? (i := 869) (by decide +kernel), List.mem_of_getElem? (i := 870) (by decide +kernel)⟩⟩
def xe132 : xME := (⟨"OverInDinghy$Asks", "isKind", "(I)Z"⟩, prog_2_method_3_code, 1, (some .boolean), 1, 0, 1, 0)
set_option maxRecDepth 30000 in
theorem xm132 : mokE xe132 := Or.inr ⟨List.mem_of_getElem? (i := 874) rfl, ⟨List.mem_of_getElem? (i := 83) (by decide +kernel), by decide +kernel, by decide +kernel, by decide +kernel⟩, by decide +kernel, Or.inl ⟨rfl, List.mem_of_getElem? (i := 873) (by decide +kernel)⟩⟩
def xe133 : xME := (⟨"OverInDinghy$Asks", "is", "(II)Z"⟩, prog_2_method_4_code, 4, (some .boolean), 1, 1, 2, 0)
set_option maxRecDepth 30000 in
theorem xm133 : mokE xe133 := Or.inr ⟨List.mem_of_getElem? (i := 877) rfl, ⟨List.mem_of_getElem? (i := 83) (by decide +kernel), by decide +kernel, by decide +kernel, by decide +kernel⟩, by decide +kernel, Or.inl ⟨rfl, List.mem_of_getElem? (i := 876) (by decide +kernel)⟩⟩
def xe134 : xME := (⟨"OverInDinghy", "ask", "(II)J"⟩, prog_1_method_28_code, 3, (some .long), 0, 10, 2, 1)
set_option maxRecDepth 30000 in
theorem xm134 : mokE xe134 := Or.inr ⟨List.mem_of_getElem? (i := 884) rfl, ⟨List.mem_of_getElem? (i := 75) (by decide +kernel), by decide +kernel, by decide +kernel, by decide +kernel⟩, by decide +kernel, Or.inr ⟨rfl, List.mem_of_getElem? (i := 882) (by decide +kernel), List.mem_of_getElem? (i := 883) (by decide +kernel)⟩⟩
def xe135 : xME := (⟨"OverInDinghy$Asks", "answer", "(LOverInDinghy$Club;II)J"⟩, prog_2_method_5_code, 4, (some .long), 1, 9, 3, 1)
set_option maxRecDepth 30000 in
theorem xm135 : mokE xe135 := Or.inr ⟨List.mem_of_getElem? (i := 888) rfl, ⟨List.mem_of_getElem? (i := 83) (by decide +kernel), by decide +kernel, by decide +kernel, by decide +kernel⟩, by decide +kernel, Or.inr ⟨rfl, List.mem_of_getElem? (i := 886) (by decide +kernel), List.mem_of_getElem? (i := 887) (by decide +kernel)⟩⟩
def xe136 : xME := (⟨"OverInDinghy$Asks", "bodyFor", "(II)I"⟩, prog_2_method_6_code, 5, (some .int), 1, 1, 2, 0)
set_option maxRecDepth 30000 in
theorem xm136 : mokE xe136 := Or.inr ⟨List.mem_of_getElem? (i := 892) rfl, ⟨List.mem_of_getElem? (i := 83) (by decide +kernel), by decide +kernel, by decide +kernel, by decide +kernel⟩, by decide +kernel, Or.inl ⟨rfl, List.mem_of_getElem? (i := 891) (by decide +kernel)⟩⟩
def xe137 : xME := (⟨"OverInDinghy$Asks", "begin", "(LOverInDinghy$Asks;ILOverInDinghy$Club;II)J"⟩, prog_2_method_7_code, 7, (some .long), 1, 8, 5, 0)
set_option maxRecDepth 30000 in
theorem xm137 : mokE xe137 := Or.inr ⟨List.mem_of_getElem? (i := 899) rfl, ⟨List.mem_of_getElem? (i := 83) (by decide +kernel), by decide +kernel, by decide +kernel, by decide +kernel⟩, by decide +kernel, Or.inl ⟨rfl, List.mem_of_getElem? (i := 898) (by decide +kernel)⟩⟩
def xe138 : xME := (⟨"OverInDinghy$Asks", "leave", "(I)V"⟩, prog_2_method_8_code, 2, none, 1, 0, 1, 1)
set_option maxRecDepth 30000 in
theorem xm138 : mokE xe138 := Or.inr ⟨List.mem_of_getElem? (i := 903) rfl, ⟨List.mem_of_getElem? (i := 83) (by decide +kernel), by decide +kernel, by decide +kernel, by decide +kernel⟩, by decide +kernel, Or.inr ⟨rfl, List.mem_of_getElem? (i := 902) (by decide +kernel), List.mem_of_getElem? (i := 24) (by decide +kernel)⟩⟩
def xe139 : xME := (⟨"OverInDinghy", "trace", "(I)I"⟩, prog_1_method_29_code, 2, (some .int), 0, 0, 1, 1)
set_option maxRecDepth 30000 in
theorem xm139 : mokE xe139 := Or.inr ⟨List.mem_of_getElem? (i := 910) rfl, ⟨List.mem_of_getElem? (i := 75) (by decide +kernel), by decide +kernel, by decide +kernel, by decide +kernel⟩, by decide +kernel, Or.inr ⟨rfl, List.mem_of_getElem? (i := 908) (by decide +kernel), List.mem_of_getElem? (i := 909) (by decide +kernel)⟩⟩
def xmt6 : List xME := [xe120, xe121, xe122, xe123, xe124, xe125, xe126, xe127, xe128, xe129, xe130, xe131, xe132, xe133, xe134, xe135, xe136, xe137, xe138, xe139]
theorem xmt6_ok : ∀ e ∈ xmt6, mokE e := List.forall_mem_cons.mpr ⟨xm120, List.forall_mem_cons.mpr ⟨xm121, List.forall_mem_cons.mpr ⟨xm122, List.forall_mem_cons.mpr ⟨xm123, List.forall_mem_cons.mpr ⟨xm124, List.forall_mem_cons.mpr ⟨xm125, List.forall_mem_cons.mpr ⟨xm126, List.forall_mem_cons.mpr ⟨xm127, List.forall_mem_cons.mpr ⟨xm128, List.forall_mem_cons.mpr ⟨xm129, List.forall_mem_cons.mpr ⟨xm130, List.forall_mem_cons.mpr ⟨xm131, List.forall_mem_cons.mpr ⟨xm132, List.forall_mem_cons.mpr ⟨xm133, List.forall_mem_cons.mpr ⟨xm134, List.forall_mem_cons.mpr ⟨xm135, List.forall_mem_cons.mpr ⟨xm136, List.forall_mem_cons.mpr ⟨xm137, List.forall_mem_cons.mpr ⟨xm138, List.forall_mem_cons.mpr ⟨xm139, fun _ h => absurd h List.not_mem_nil⟩⟩⟩⟩⟩⟩⟩⟩⟩⟩⟩⟩⟩⟩⟩⟩⟩⟩⟩⟩
def xe140 : xME := (⟨"OverInDinghy", "count", "(I)J"⟩, prog_1_method_30_code, 2, (some .long), 0, 2, 1, 1)
set_option maxRecDepth 30000 in
theorem xm140 : mokE xe140 := Or.inr ⟨List.mem_of_getElem? (i := 915) rfl, ⟨List.mem_of_getElem? (i := 75) (by decide +kernel), by decide +kernel, by decide +kernel, by decide +kernel⟩, by decide +kernel, Or.inr ⟨rfl, List.mem_of_getElem? (i := 913) (by decide +kernel), List.mem_of_getElem? (i := 914) (by decide +kernel)⟩⟩
def xe141 : xME := (⟨"OverInDinghy$Rows", "present", "()I"⟩, prog_9_method_10_code, 3, (some .int), 8, 1, 0, 1)
set_option maxRecDepth 30000 in
theorem xm141 : mokE xe141 := Or.inr ⟨List.mem_of_getElem? (i := 919) rfl, ⟨List.mem_of_getElem? (i := 76) (by decide +kernel), by decide +kernel, by decide +kernel, by decide +kernel⟩, by decide +kernel, Or.inr ⟨rfl, List.mem_of_getElem? (i := 917) (by decide +kernel), List.mem_of_getElem? (i := 918) (by decide +kernel)⟩⟩
def xe142 : xME := (⟨"OverInDinghy$Club", "handsWhoCannot", "()I"⟩, prog_3_method_18_code, 3, (some .int), 2, 1, 0, 1)
set_option maxRecDepth 30000 in
theorem xm142 : mokE xe142 := Or.inr ⟨List.mem_of_getElem? (i := 924) rfl, ⟨List.mem_of_getElem? (i := 79) (by decide +kernel), by decide +kernel, by decide +kernel, by decide +kernel⟩, by decide +kernel, Or.inr ⟨rfl, List.mem_of_getElem? (i := 922) (by decide +kernel), List.mem_of_getElem? (i := 923) (by decide +kernel)⟩⟩
def xe143 : xME := (⟨"OverInDinghy$Club", "boatsOver", "()I"⟩, prog_3_method_19_code, 3, (some .int), 2, 1, 0, 1)
set_option maxRecDepth 30000 in
theorem xm143 : mokE xe143 := Or.inr ⟨List.mem_of_getElem? (i := 929) rfl, ⟨List.mem_of_getElem? (i := 79) (by decide +kernel), by decide +kernel, by decide +kernel, by decide +kernel⟩, by decide +kernel, Or.inr ⟨rfl, List.mem_of_getElem? (i := 927) (by decide +kernel), List.mem_of_getElem? (i := 928) (by decide +kernel)⟩⟩
def xe144 : xME := (⟨"OverInDinghy", "status", "()I"⟩, prog_1_method_31_code, 1, (some .int), 0, 0, 0, 1)
set_option maxRecDepth 30000 in
theorem xm144 : mokE xe144 := Or.inr ⟨List.mem_of_getElem? (i := 934) rfl, ⟨List.mem_of_getElem? (i := 75) (by decide +kernel), by decide +kernel, by decide +kernel, by decide +kernel⟩, by decide +kernel, Or.inr ⟨rfl, List.mem_of_getElem? (i := 932) (by decide +kernel), List.mem_of_getElem? (i := 933) (by decide +kernel)⟩⟩
def xe145 : xME := (⟨"OverInDinghyModel", "<init>", "()V"⟩, prog_12_method_1_code, 1, none, 10, 0, 0, 2)
theorem xm145 : mokE xe145 := Or.inl rfl
def xe146 : xME := (⟨"OverInDinghyModel", "row", "(III)J"⟩, prog_12_method_6_code, 5, (some .long), 10, 2, 3, 1)
set_option maxRecDepth 30000 in
theorem xm146 : mokE xe146 := Or.inr ⟨List.mem_of_getElem? (i := 1042) rfl, ⟨List.mem_of_getElem? (i := 84) (by decide +kernel), by decide +kernel, by decide +kernel, by decide +kernel⟩, by decide +kernel, Or.inr ⟨rfl, List.mem_of_getElem? (i := 1040) (by decide +kernel), List.mem_of_getElem? (i := 1041) (by decide +kernel)⟩⟩
def xe147 : xME := (⟨"OverInDinghyModel", "isRow", "(I)Z"⟩, prog_12_method_5_code, 1, (some .boolean), 10, 1, 1, 0)
set_option maxRecDepth 30000 in
theorem xm147 : mokE xe147 := Or.inr ⟨List.mem_of_getElem? (i := 1045) rfl, ⟨List.mem_of_getElem? (i := 84) (by decide +kernel), by decide +kernel, by decide +kernel, by decide +kernel⟩, by decide +kernel, Or.inl ⟨rfl, List.mem_of_getElem? (i := 1044) (by decide +kernel)⟩⟩
def xe148 : xME := (⟨"OverInDinghyModel", "in", "(JJJ)Z"⟩, prog_12_method_3_code, 6, (some .boolean), 10, 0, 3, 0)
set_option maxRecDepth 30000 in
theorem xm148 : mokE xe148 := Or.inr ⟨List.mem_of_getElem? (i := 1049) rfl, ⟨List.mem_of_getElem? (i := 84) (by decide +kernel), by decide +kernel, by decide +kernel, by decide +kernel⟩, by decide +kernel, Or.inl ⟨rfl, List.mem_of_getElem? (i := 1048) (by decide +kernel)⟩⟩
def xe149 : xME := (⟨"OverInDinghyModel", "finding", "(I)J"⟩, prog_12_method_4_code, 2, (some .long), 10, 0, 1, 1)
set_option maxRecDepth 30000 in
theorem xm149 : mokE xe149 := Or.inr ⟨List.mem_of_getElem? (i := 1055) rfl, ⟨List.mem_of_getElem? (i := 84) (by decide +kernel), by decide +kernel, by decide +kernel, by decide +kernel⟩, by decide +kernel, Or.inr ⟨rfl, List.mem_of_getElem? (i := 1054) (by decide +kernel), List.mem_of_getElem? (i := 25) (by decide +kernel)⟩⟩
def xe150 : xME := (⟨"OverInDinghyModel", "set", "(III)J"⟩, prog_12_method_7_code, 4, (some .long), 10, 2, 3, 1)
set_option maxRecDepth 30000 in
theorem xm150 : mokE xe150 := Or.inr ⟨List.mem_of_getElem? (i := 1060) rfl, ⟨List.mem_of_getElem? (i := 84) (by decide +kernel), by decide +kernel, by decide +kernel, by decide +kernel⟩, by decide +kernel, Or.inr ⟨rfl, List.mem_of_getElem? (i := 1058) (by decide +kernel), List.mem_of_getElem? (i := 1059) (by decide +kernel)⟩⟩
def xe151 : xME := (⟨"OverInDinghyModel", "copy", "(IIIII)J"⟩, prog_12_method_8_code, 9, (some .long), 10, 2, 5, 1)
set_option maxRecDepth 30000 in
theorem xm151 : mokE xe151 := Or.inr ⟨List.mem_of_getElem? (i := 1064) rfl, ⟨List.mem_of_getElem? (i := 84) (by decide +kernel), by decide +kernel, by decide +kernel, by decide +kernel⟩, by decide +kernel, Or.inr ⟨rfl, List.mem_of_getElem? (i := 1062) (by decide +kernel), List.mem_of_getElem? (i := 1063) (by decide +kernel)⟩⟩
def xe152 : xME := (⟨"OverInDinghyModel", "drop", "(I)J"⟩, prog_12_method_9_code, 2, (some .long), 10, 2, 1, 1)
set_option maxRecDepth 30000 in
theorem xm152 : mokE xe152 := Or.inr ⟨List.mem_of_getElem? (i := 1068) rfl, ⟨List.mem_of_getElem? (i := 84) (by decide +kernel), by decide +kernel, by decide +kernel, by decide +kernel⟩, by decide +kernel, Or.inr ⟨rfl, List.mem_of_getElem? (i := 1066) (by decide +kernel), List.mem_of_getElem? (i := 1067) (by decide +kernel)⟩⟩
def xe153 : xME := (⟨"OverInDinghyModel", "feed", "(JI)J"⟩, prog_12_method_10_code, 5, (some .long), 10, 1, 2, 1)
set_option maxRecDepth 30000 in
theorem xm153 : mokE xe153 := Or.inr ⟨List.mem_of_getElem? (i := 1072) rfl, ⟨List.mem_of_getElem? (i := 84) (by decide +kernel), by decide +kernel, by decide +kernel, by decide +kernel⟩, by decide +kernel, Or.inr ⟨rfl, List.mem_of_getElem? (i := 1070) (by decide +kernel), List.mem_of_getElem? (i := 1071) (by decide +kernel)⟩⟩
def xe154 : xME := (⟨"OverInDinghyModel", "club", "()J"⟩, prog_12_method_26_code, 2, (some .long), 10, 5, 0, 1)
set_option maxRecDepth 30000 in
theorem xm154 : mokE xe154 := Or.inr ⟨List.mem_of_getElem? (i := 1079) rfl, ⟨List.mem_of_getElem? (i := 84) (by decide +kernel), by decide +kernel, by decide +kernel, by decide +kernel⟩, by decide +kernel, Or.inr ⟨rfl, List.mem_of_getElem? (i := 1077) (by decide +kernel), List.mem_of_getElem? (i := 1078) (by decide +kernel)⟩⟩
def xe155 : xME := (⟨"OverInDinghyModel", "next", "()V"⟩, prog_12_method_14_code, 2, none, 10, 1, 0, 1)
set_option maxRecDepth 30000 in
theorem xm155 : mokE xe155 := Or.inr ⟨List.mem_of_getElem? (i := 1083) rfl, ⟨List.mem_of_getElem? (i := 84) (by decide +kernel), by decide +kernel, by decide +kernel, by decide +kernel⟩, by decide +kernel, Or.inr ⟨rfl, List.mem_of_getElem? (i := 1082) (by decide +kernel), List.mem_of_getElem? (i := 26) (by decide +kernel)⟩⟩
def xe156 : xME := (⟨"OverInDinghyModel", "byteAt", "(I)I"⟩, prog_12_method_11_code, 2, (some .int), 10, 0, 1, 1)
set_option maxRecDepth 30000 in
theorem xm156 : mokE xe156 := Or.inr ⟨List.mem_of_getElem? (i := 1087) rfl, ⟨List.mem_of_getElem? (i := 84) (by decide +kernel), by decide +kernel, by decide +kernel, by decide +kernel⟩, by decide +kernel, Or.inr ⟨rfl, List.mem_of_getElem? (i := 1086) (by decide +kernel), List.mem_of_getElem? (i := 27) (by decide +kernel)⟩⟩
def xe157 : xME := (⟨"OverInDinghyModel", "isLetter", "(I)Z"⟩, prog_12_method_12_code, 1, (some .boolean), 10, 0, 1, 0)
set_option maxRecDepth 30000 in
theorem xm157 : mokE xe157 := Or.inr ⟨List.mem_of_getElem? (i := 1091) rfl, ⟨List.mem_of_getElem? (i := 84) (by decide +kernel), by decide +kernel, by decide +kernel, by decide +kernel⟩, by decide +kernel, Or.inl ⟨rfl, List.mem_of_getElem? (i := 1090) (by decide +kernel)⟩⟩
def xe158 : xME := (⟨"OverInDinghyModel", "isFigure", "(I)Z"⟩, prog_12_method_13_code, 1, (some .boolean), 10, 0, 1, 0)
set_option maxRecDepth 30000 in
theorem xm158 : mokE xe158 := Or.inr ⟨List.mem_of_getElem? (i := 1094) rfl, ⟨List.mem_of_getElem? (i := 84) (by decide +kernel), by decide +kernel, by decide +kernel, by decide +kernel⟩, by decide +kernel, Or.inl ⟨rfl, List.mem_of_getElem? (i := 1093) (by decide +kernel)⟩⟩
def xe159 : xME := (⟨"OverInDinghyModel", "readSea", "()V"⟩, prog_12_method_22_code, 1, none, 10, 4, 0, 1)
set_option maxRecDepth 30000 in
theorem xm159 : mokE xe159 := Or.inr ⟨List.mem_of_getElem? (i := 1098) rfl, ⟨List.mem_of_getElem? (i := 84) (by decide +kernel), by decide +kernel, by decide +kernel, by decide +kernel⟩, by decide +kernel, Or.inr ⟨rfl, List.mem_of_getElem? (i := 1097) (by decide +kernel), List.mem_of_getElem? (i := 28) (by decide +kernel)⟩⟩
def xmt7 : List xME := [xe140, xe141, xe142, xe143, xe144, xe145, xe146, xe147, xe148, xe149, xe150, xe151, xe152, xe153, xe154, xe155, xe156, xe157, xe158, xe159]
theorem xmt7_ok : ∀ e ∈ xmt7, mokE e := List.forall_mem_cons.mpr ⟨xm140, List.forall_mem_cons.mpr ⟨xm141, List.forall_mem_cons.mpr ⟨xm142, List.forall_mem_cons.mpr ⟨xm143, List.forall_mem_cons.mpr ⟨xm144, List.forall_mem_cons.mpr ⟨xm145, List.forall_mem_cons.mpr ⟨xm146, List.forall_mem_cons.mpr ⟨xm147, List.forall_mem_cons.mpr ⟨xm148, List.forall_mem_cons.mpr ⟨xm149, List.forall_mem_cons.mpr ⟨xm150, List.forall_mem_cons.mpr ⟨xm151, List.forall_mem_cons.mpr ⟨xm152, List.forall_mem_cons.mpr ⟨xm153, List.forall_mem_cons.mpr ⟨xm154, List.forall_mem_cons.mpr ⟨xm155, List.forall_mem_cons.mpr ⟨xm156, List.forall_mem_cons.mpr ⟨xm157, List.forall_mem_cons.mpr ⟨xm158, List.forall_mem_cons.mpr ⟨xm159, fun _ h => absurd h List.not_mem_nil⟩⟩⟩⟩⟩⟩⟩⟩⟩⟩⟩⟩⟩⟩⟩⟩⟩⟩⟩⟩
def xe160 : xME := (⟨"OverInDinghyModel", "word", "()J"⟩, prog_12_method_17_code, 4, (some .long), 10, 0, 0, 1)
set_option maxRecDepth 30000 in
theorem xm160 : mokE xe160 := Or.inr ⟨List.mem_of_getElem? (i := 1102) rfl, ⟨List.mem_of_getElem? (i := 84) (by decide +kernel), by decide +kernel, by decide +kernel, by decide +kernel⟩, by decide +kernel, Or.inr ⟨rfl, List.mem_of_getElem? (i := 1101) (by decide +kernel), List.mem_of_getElem? (i := 29) (by decide +kernel)⟩⟩
def xe161 : xME := (⟨"OverInDinghyModel", "must", "(Z)V"⟩, prog_12_method_16_code, 2, none, 10, 2, 1, 1)
set_option maxRecDepth 30000 in
theorem xm161 : mokE xe161 := Or.inr ⟨List.mem_of_getElem? (i := 1107) rfl, ⟨List.mem_of_getElem? (i := 84) (by decide +kernel), by decide +kernel, by decide +kernel, by decide +kernel⟩, by decide +kernel, Or.inr ⟨rfl, List.mem_of_getElem? (i := 1106) (by decide +kernel), List.mem_of_getElem? (i := 30) (by decide +kernel)⟩⟩
def xe162 : xME := (⟨"OverInDinghyModel", "bad", "(I)V"⟩, prog_12_method_15_code, 2, none, 10, 0, 1, 1)
set_option maxRecDepth 30000 in
theorem xm162 : mokE xe162 := Or.inr ⟨List.mem_of_getElem? (i := 1111) rfl, ⟨List.mem_of_getElem? (i := 84) (by decide +kernel), by decide +kernel, by decide +kernel, by decide +kernel⟩, by decide +kernel, Or.inr ⟨rfl, List.mem_of_getElem? (i := 1110) (by decide +kernel), List.mem_of_getElem? (i := 31) (by decide +kernel)⟩⟩
def xe163 : xME := (⟨"OverInDinghyModel", "number", "(II)I"⟩, prog_12_method_19_code, 4, (some .int), 10, 3, 2, 1)
set_option maxRecDepth 30000 in
theorem xm163 : mokE xe163 := Or.inr ⟨List.mem_of_getElem? (i := 1115) rfl, ⟨List.mem_of_getElem? (i := 84) (by decide +kernel), by decide +kernel, by decide +kernel, by decide +kernel⟩, by decide +kernel, Or.inr ⟨rfl, List.mem_of_getElem? (i := 1114) (by decide +kernel), List.mem_of_getElem? (i := 32) (by decide +kernel)⟩⟩
def xe164 : xME := (⟨"OverInDinghyModel", "figures", "()I"⟩, prog_12_method_18_code, 3, (some .int), 10, 0, 0, 1)
set_option maxRecDepth 30000 in
theorem xm164 : mokE xe164 := Or.inr ⟨List.mem_of_getElem? (i := 1119) rfl, ⟨List.mem_of_getElem? (i := 84) (by decide +kernel), by decide +kernel, by decide +kernel, by decide +kernel⟩, by decide +kernel, Or.inr ⟨rfl, List.mem_of_getElem? (i := 1118) (by decide +kernel), List.mem_of_getElem? (i := 33) (by decide +kernel)⟩⟩
def xe165 : xME := (⟨"OverInDinghyModel", "mustEnd", "()V"⟩, prog_12_method_20_code, 1, none, 10, 3, 0, 1)
set_option maxRecDepth 30000 in
theorem xm165 : mokE xe165 := Or.inr ⟨List.mem_of_getElem? (i := 1124) rfl, ⟨List.mem_of_getElem? (i := 84) (by decide +kernel), by decide +kernel, by decide +kernel, by decide +kernel⟩, by decide +kernel, Or.inr ⟨rfl, List.mem_of_getElem? (i := 1123) (by decide +kernel), List.mem_of_getElem? (i := 34) (by decide +kernel)⟩⟩
def xe166 : xME := (⟨"OverInDinghyModel", "readBoat", "()V"⟩, prog_12_method_23_code, 6, none, 10, 4, 0, 1)
set_option maxRecDepth 30000 in
theorem xm166 : mokE xe166 := Or.inr ⟨List.mem_of_getElem? (i := 1129) rfl, ⟨List.mem_of_getElem? (i := 84) (by decide +kernel), by decide +kernel, by decide +kernel, by decide +kernel⟩, by decide +kernel, Or.inr ⟨rfl, List.mem_of_getElem? (i := 1128) (by decide +kernel), List.mem_of_getElem? (i := 35) (by decide +kernel)⟩⟩
def xe167 : xME := (⟨"OverInDinghyModel", "begins", "(II)V"⟩, prog_12_method_21_code, 3, none, 10, 3, 2, 1)
set_option maxRecDepth 30000 in
theorem xm167 : mokE xe167 := Or.inr ⟨List.mem_of_getElem? (i := 1133) rfl, ⟨List.mem_of_getElem? (i := 84) (by decide +kernel), by decide +kernel, by decide +kernel, by decide +kernel⟩, by decide +kernel, Or.inr ⟨rfl, List.mem_of_getElem? (i := 1132) (by decide +kernel), List.mem_of_getElem? (i := 36) (by decide +kernel)⟩⟩
def xe168 : xME := (⟨"OverInDinghyModel", "readHand", "()V"⟩, prog_12_method_25_code, 5, none, 10, 4, 0, 1)
set_option maxRecDepth 30000 in
theorem xm168 : mokE xe168 := Or.inr ⟨List.mem_of_getElem? (i := 1138) rfl, ⟨List.mem_of_getElem? (i := 84) (by decide +kernel), by decide +kernel, by decide +kernel, by decide +kernel⟩, by decide +kernel, Or.inr ⟨rfl, List.mem_of_getElem? (i := 1137) (by decide +kernel), List.mem_of_getElem? (i := 37) (by decide +kernel)⟩⟩
def xe169 : xME := (⟨"OverInDinghyModel", "handsTold", "(I)I"⟩, prog_12_method_24_code, 4, (some .int), 10, 0, 1, 1)
set_option maxRecDepth 30000 in
theorem xm169 : mokE xe169 := Or.inr ⟨List.mem_of_getElem? (i := 1142) rfl, ⟨List.mem_of_getElem? (i := 84) (by decide +kernel), by decide +kernel, by decide +kernel, by decide +kernel⟩, by decide +kernel, Or.inr ⟨rfl, List.mem_of_getElem? (i := 1141) (by decide +kernel), List.mem_of_getElem? (i := 38) (by decide +kernel)⟩⟩
def xe170 : xME := (⟨"OverInDinghyModel", "fault", "()I"⟩, prog_12_method_27_code, 1, (some .int), 10, 0, 0, 1)
set_option maxRecDepth 30000 in
theorem xm170 : mokE xe170 := Or.inr ⟨List.mem_of_getElem? (i := 1147) rfl, ⟨List.mem_of_getElem? (i := 84) (by decide +kernel), by decide +kernel, by decide +kernel, by decide +kernel⟩, by decide +kernel, Or.inr ⟨rfl, List.mem_of_getElem? (i := 1145) (by decide +kernel), List.mem_of_getElem? (i := 1146) (by decide +kernel)⟩⟩
def xe171 : xME := (⟨"OverInDinghyModel", "place", "(II)J"⟩, prog_12_method_43_code, 3, (some .long), 10, 2, 2, 1)
set_option maxRecDepth 30000 in
theorem xm171 : mokE xe171 := Or.inr ⟨List.mem_of_getElem? (i := 1151) rfl, ⟨List.mem_of_getElem? (i := 84) (by decide +kernel), by decide +kernel, by decide +kernel, by decide +kernel⟩, by decide +kernel, Or.inr ⟨rfl, List.mem_of_getElem? (i := 1149) (by decide +kernel), List.mem_of_getElem? (i := 1150) (by decide +kernel)⟩⟩
def xe172 : xME := (⟨"OverInDinghyModel", "isHand", "(I)Z"⟩, prog_12_method_29_code, 2, (some .boolean), 10, 1, 1, 1)
set_option maxRecDepth 30000 in
theorem xm172 : mokE xe172 := Or.inr ⟨List.mem_of_getElem? (i := 1155) rfl, ⟨List.mem_of_getElem? (i := 84) (by decide +kernel), by decide +kernel, by decide +kernel, by decide +kernel⟩, by decide +kernel, Or.inr ⟨rfl, List.mem_of_getElem? (i := 1154) (by decide +kernel), List.mem_of_getElem? (i := 39) (by decide +kernel)⟩⟩
def xe173 : xME := (⟨"OverInDinghyModel", "can", "([II)Z"⟩, prog_12_method_32_code, 2, (some .boolean), 10, 0, 2, 0)
set_option maxRecDepth 30000 in
theorem xm173 : mokE xe173 := Or.inr ⟨List.mem_of_getElem? (i := 1159) rfl, ⟨List.mem_of_getElem? (i := 84) (by decide +kernel), by decide +kernel, by decide +kernel, by decide +kernel⟩, by decide +kernel, Or.inl ⟨rfl, List.mem_of_getElem? (i := 1158) (by decide +kernel)⟩⟩
def xe174 : xME := (⟨"OverInDinghyModel", "handOf", "(II)I"⟩, prog_12_method_31_code, 3, (some .int), 10, 0, 2, 1)
set_option maxRecDepth 30000 in
theorem xm174 : mokE xe174 := Or.inr ⟨List.mem_of_getElem? (i := 1163) rfl, ⟨List.mem_of_getElem? (i := 84) (by decide +kernel), by decide +kernel, by decide +kernel, by decide +kernel⟩, by decide +kernel, Or.inr ⟨rfl, List.mem_of_getElem? (i := 1162) (by decide +kernel), List.mem_of_getElem? (i := 40) (by decide +kernel)⟩⟩
def xe175 : xME := (⟨"OverInDinghyModel", "isUpright", "(I)Z"⟩, prog_12_method_42_code, 2, (some .boolean), 10, 0, 1, 1)
set_option maxRecDepth 30000 in
theorem xm175 : mokE xe175 := Or.inr ⟨List.mem_of_getElem? (i := 1167) rfl, ⟨List.mem_of_getElem? (i := 84) (by decide +kernel), by decide +kernel, by decide +kernel, by decide +kernel⟩, by decide +kernel, Or.inr ⟨rfl, List.mem_of_getElem? (i := 1166) (by decide +kernel), List.mem_of_getElem? (i := 41) (by decide +kernel)⟩⟩
def xe176 : xME := (⟨"OverInDinghyModel", "tip", "(I)J"⟩, prog_12_method_44_code, 2, (some .long), 10, 4, 1, 1)
set_option maxRecDepth 30000 in
theorem xm176 : mokE xe176 := Or.inr ⟨List.mem_of_getElem? (i := 1172) rfl, ⟨List.mem_of_getElem? (i := 84) (by decide +kernel), by decide +kernel, by decide +kernel, by decide +kernel⟩, by decide +kernel, Or.inr ⟨rfl, List.mem_of_getElem? (i := 1170) (by decide +kernel), List.mem_of_getElem? (i := 1171) (by decide +kernel)⟩⟩
def xe177 : xME := (⟨"OverInDinghyModel", "isBoat", "(I)Z"⟩, prog_12_method_28_code, 2, (some .boolean), 10, 1, 1, 1)
set_option maxRecDepth 30000 in
theorem xm177 : mokE xe177 := Or.inr ⟨List.mem_of_getElem? (i := 1176) rfl, ⟨List.mem_of_getElem? (i := 84) (by decide +kernel), by decide +kernel, by decide +kernel, by decide +kernel⟩, by decide +kernel, Or.inr ⟨rfl, List.mem_of_getElem? (i := 1175) (by decide +kernel), List.mem_of_getElem? (i := 42) (by decide +kernel)⟩⟩
def xe178 : xME := (⟨"OverInDinghyModel", "tips", "([II)V"⟩, prog_12_method_41_code, 3, none, 10, 3, 2, 1)
set_option maxRecDepth 30000 in
theorem xm178 : mokE xe178 := Or.inr ⟨List.mem_of_getElem? (i := 1180) rfl, ⟨List.mem_of_getElem? (i := 84) (by decide +kernel), by decide +kernel, by decide +kernel, by decide +kernel⟩, by decide +kernel, Or.inr ⟨rfl, List.mem_of_getElem? (i := 1179) (by decide +kernel), List.mem_of_getElem? (i := 43) (by decide +kernel)⟩⟩
def xe179 : xME := (⟨"OverInDinghyModel", "moveAll", "([IIII)V"⟩, prog_12_method_40_code, 6, none, 10, 2, 4, 1)
set_option maxRecDepth 30000 in
theorem xm179 : mokE xe179 := Or.inr ⟨List.mem_of_getElem? (i := 1184) rfl, ⟨List.mem_of_getElem? (i := 84) (by decide +kernel), by decide +kernel, by decide +kernel, by decide +kernel⟩, by decide +kernel, Or.inr ⟨rfl, List.mem_of_getElem? (i := 1183) (by decide +kernel), List.mem_of_getElem? (i := 44) (by decide +kernel)⟩⟩
def xmt8 : List xME := [xe160, xe161, xe162, xe163, xe164, xe165, xe166, xe167, xe168, xe169, xe170, xe171, xe172, xe173, xe174, xe175, xe176, xe177, xe178, xe179]
theorem xmt8_ok : ∀ e ∈ xmt8, mokE e := List.forall_mem_cons.mpr ⟨xm160, List.forall_mem_cons.mpr ⟨xm161, List.forall_mem_cons.mpr ⟨xm162, List.forall_mem_cons.mpr ⟨xm163, List.forall_mem_cons.mpr ⟨xm164, List.forall_mem_cons.mpr ⟨xm165, List.forall_mem_cons.mpr ⟨xm166, List.forall_mem_cons.mpr ⟨xm167, List.forall_mem_cons.mpr ⟨xm168, List.forall_mem_cons.mpr ⟨xm169, List.forall_mem_cons.mpr ⟨xm170, List.forall_mem_cons.mpr ⟨xm171, List.forall_mem_cons.mpr ⟨xm172, List.forall_mem_cons.mpr ⟨xm173, List.forall_mem_cons.mpr ⟨xm174, List.forall_mem_cons.mpr ⟨xm175, List.forall_mem_cons.mpr ⟨xm176, List.forall_mem_cons.mpr ⟨xm177, List.forall_mem_cons.mpr ⟨xm178, List.forall_mem_cons.mpr ⟨xm179, fun _ h => absurd h List.not_mem_nil⟩⟩⟩⟩⟩⟩⟩⟩⟩⟩⟩⟩⟩⟩⟩⟩⟩⟩⟩⟩
def xe180 : xME := (⟨"OverInDinghyModel", "isOf", "(II)Z"⟩, prog_12_method_34_code, 3, (some .boolean), 10, 1, 2, 1)
set_option maxRecDepth 30000 in
theorem xm180 : mokE xe180 := Or.inr ⟨List.mem_of_getElem? (i := 1188) rfl, ⟨List.mem_of_getElem? (i := 84) (by decide +kernel), by decide +kernel, by decide +kernel, by decide +kernel⟩, by decide +kernel, Or.inr ⟨rfl, List.mem_of_getElem? (i := 1187) (by decide +kernel), List.mem_of_getElem? (i := 45) (by decide +kernel)⟩⟩
def xe181 : xME := (⟨"OverInDinghyModel", "placeOf", "([II)I"⟩, prog_12_method_33_code, 2, (some .int), 10, 0, 2, 0)
set_option maxRecDepth 30000 in
theorem xm181 : mokE xe181 := Or.inr ⟨List.mem_of_getElem? (i := 1191) rfl, ⟨List.mem_of_getElem? (i := 84) (by decide +kernel), by decide +kernel, by decide +kernel, by decide +kernel⟩, by decide +kernel, Or.inl ⟨rfl, List.mem_of_getElem? (i := 1190) (by decide +kernel)⟩⟩
def xe182 : xME := (⟨"OverInDinghyModel", "go", "(II)J"⟩, prog_12_method_53_code, 5, (some .long), 10, 6, 2, 1)
set_option maxRecDepth 30000 in
theorem xm182 : mokE xe182 := Or.inr ⟨List.mem_of_getElem? (i := 1195) rfl, ⟨List.mem_of_getElem? (i := 84) (by decide +kernel), by decide +kernel, by decide +kernel, by decide +kernel⟩, by decide +kernel, Or.inr ⟨rfl, List.mem_of_getElem? (i := 1193) (by decide +kernel), List.mem_of_getElem? (i := 1194) (by decide +kernel)⟩⟩
def xe183 : xME := (⟨"OverInDinghyModel", "tick", "([IIZ)V"⟩, prog_12_method_52_code, 4, none, 10, 5, 3, 1)
set_option maxRecDepth 30000 in
theorem xm183 : mokE xe183 := Or.inr ⟨List.mem_of_getElem? (i := 1201) rfl, ⟨List.mem_of_getElem? (i := 84) (by decide +kernel), by decide +kernel, by decide +kernel, by decide +kernel⟩, by decide +kernel, Or.inr ⟨rfl, List.mem_of_getElem? (i := 1200) (by decide +kernel), List.mem_of_getElem? (i := 46) (by decide +kernel)⟩⟩
def xe184 : xME := (⟨"OverInDinghyModel", "goUpright", "([IIZ)V"⟩, prog_12_method_47_code, 7, none, 10, 4, 3, 1)
set_option maxRecDepth 30000 in
theorem xm184 : mokE xe184 := Or.inr ⟨List.mem_of_getElem? (i := 1205) rfl, ⟨List.mem_of_getElem? (i := 84) (by decide +kernel), by decide +kernel, by decide +kernel, by decide +kernel⟩, by decide +kernel, Or.inr ⟨rfl, List.mem_of_getElem? (i := 1204) (by decide +kernel), List.mem_of_getElem? (i := 47) (by decide +kernel)⟩⟩
def xe185 : xME := (⟨"OverInDinghyModel", "draw", "(I)I"⟩, prog_12_method_45_code, 2, (some .int), 10, 0, 1, 1)
set_option maxRecDepth 30000 in
theorem xm185 : mokE xe185 := Or.inr ⟨List.mem_of_getElem? (i := 1209) rfl, ⟨List.mem_of_getElem? (i := 84) (by decide +kernel), by decide +kernel, by decide +kernel, by decide +kernel⟩, by decide +kernel, Or.inr ⟨rfl, List.mem_of_getElem? (i := 1208) (by decide +kernel), List.mem_of_getElem? (i := 48) (by decide +kernel)⟩⟩
def xe186 : xME := (⟨"OverInDinghyModel", "boatOf", "(II)I"⟩, prog_12_method_30_code, 3, (some .int), 10, 0, 2, 1)
set_option maxRecDepth 30000 in
theorem xm186 : mokE xe186 := Or.inr ⟨List.mem_of_getElem? (i := 1215) rfl, ⟨List.mem_of_getElem? (i := 84) (by decide +kernel), by decide +kernel, by decide +kernel, by decide +kernel⟩, by decide +kernel, Or.inr ⟨rfl, List.mem_of_getElem? (i := 1214) (by decide +kernel), List.mem_of_getElem? (i := 49) (by decide +kernel)⟩⟩
def xe187 : xME := (⟨"OverInDinghyModel", "weightIn", "([II)I"⟩, prog_12_method_39_code, 5, (some .int), 10, 2, 2, 1)
set_option maxRecDepth 30000 in
theorem xm187 : mokE xe187 := Or.inr ⟨List.mem_of_getElem? (i := 1219) rfl, ⟨List.mem_of_getElem? (i := 84) (by decide +kernel), by decide +kernel, by decide +kernel, by decide +kernel⟩, by decide +kernel, Or.inr ⟨rfl, List.mem_of_getElem? (i := 1218) (by decide +kernel), List.mem_of_getElem? (i := 50) (by decide +kernel)⟩⟩
def xe188 : xME := (⟨"OverInDinghyModel", "bailers", "([II)I"⟩, prog_12_method_46_code, 5, (some .int), 10, 2, 2, 1)
set_option maxRecDepth 30000 in
theorem xm188 : mokE xe188 := Or.inr ⟨List.mem_of_getElem? (i := 1223) rfl, ⟨List.mem_of_getElem? (i := 84) (by decide +kernel), by decide +kernel, by decide +kernel, by decide +kernel⟩, by decide +kernel, Or.inr ⟨rfl, List.mem_of_getElem? (i := 1222) (by decide +kernel), List.mem_of_getElem? (i := 51) (by decide +kernel)⟩⟩
def xe189 : xME := (⟨"OverInDinghyModel", "goSided", "([IIZ)V"⟩, prog_12_method_48_code, 6, none, 10, 4, 3, 1)
set_option maxRecDepth 30000 in
theorem xm189 : mokE xe189 := Or.inr ⟨List.mem_of_getElem? (i := 1227) rfl, ⟨List.mem_of_getElem? (i := 84) (by decide +kernel), by decide +kernel, by decide +kernel, by decide +kernel⟩, by decide +kernel, Or.inr ⟨rfl, List.mem_of_getElem? (i := 1226) (by decide +kernel), List.mem_of_getElem? (i := 52) (by decide +kernel)⟩⟩
def xe190 : xME := (⟨"OverInDinghyModel", "needNow", "([II)I"⟩, prog_12_method_37_code, 3, (some .int), 10, 3, 2, 1)
set_option maxRecDepth 30000 in
theorem xm190 : mokE xe190 := Or.inr ⟨List.mem_of_getElem? (i := 1231) rfl, ⟨List.mem_of_getElem? (i := 84) (by decide +kernel), by decide +kernel, by decide +kernel, by decide +kernel⟩, by decide +kernel, Or.inr ⟨rfl, List.mem_of_getElem? (i := 1230) (by decide +kernel), List.mem_of_getElem? (i := 53) (by decide +kernel)⟩⟩
def xe191 : xME := (⟨"OverInDinghyModel", "hasBow", "([II)Z"⟩, prog_12_method_35_code, 5, (some .boolean), 10, 2, 2, 1)
set_option maxRecDepth 30000 in
theorem xm191 : mokE xe191 := Or.inr ⟨List.mem_of_getElem? (i := 1235) rfl, ⟨List.mem_of_getElem? (i := 84) (by decide +kernel), by decide +kernel, by decide +kernel, by decide +kernel⟩, by decide +kernel, Or.inr ⟨rfl, List.mem_of_getElem? (i := 1234) (by decide +kernel), List.mem_of_getElem? (i := 54) (by decide +kernel)⟩⟩
def xe192 : xME := (⟨"OverInDinghyModel", "need", "(IIZ)I"⟩, prog_12_method_36_code, 4, (some .int), 10, 1, 3, 1)
set_option maxRecDepth 30000 in
theorem xm192 : mokE xe192 := Or.inr ⟨List.mem_of_getElem? (i := 1239) rfl, ⟨List.mem_of_getElem? (i := 84) (by decide +kernel), by decide +kernel, by decide +kernel, by decide +kernel⟩, by decide +kernel, Or.inr ⟨rfl, List.mem_of_getElem? (i := 1238) (by decide +kernel), List.mem_of_getElem? (i := 55) (by decide +kernel)⟩⟩
def xe193 : xME := (⟨"OverInDinghyModel", "lever", "([II)I"⟩, prog_12_method_38_code, 5, (some .int), 10, 2, 2, 1)
set_option maxRecDepth 30000 in
theorem xm193 : mokE xe193 := Or.inr ⟨List.mem_of_getElem? (i := 1243) rfl, ⟨List.mem_of_getElem? (i := 84) (by decide +kernel), by decide +kernel, by decide +kernel, by decide +kernel⟩, by decide +kernel, Or.inr ⟨rfl, List.mem_of_getElem? (i := 1242) (by decide +kernel), List.mem_of_getElem? (i := 56) (by decide +kernel)⟩⟩
def xe194 : xME := (⟨"OverInDinghyModel", "goRound", "([II)V"⟩, prog_12_method_49_code, 5, none, 10, 4, 2, 1)
set_option maxRecDepth 30000 in
theorem xm194 : mokE xe194 := Or.inr ⟨List.mem_of_getElem? (i := 1247) rfl, ⟨List.mem_of_getElem? (i := 84) (by decide +kernel), by decide +kernel, by decide +kernel, by decide +kernel⟩, by decide +kernel, Or.inr ⟨rfl, List.mem_of_getElem? (i := 1246) (by decide +kernel), List.mem_of_getElem? (i := 57) (by decide +kernel)⟩⟩
def xe195 : xME := (⟨"OverInDinghyModel", "getsCold", "([II)V"⟩, prog_12_method_51_code, 5, none, 10, 2, 2, 1)
set_option maxRecDepth 30000 in
theorem xm195 : mokE xe195 := Or.inr ⟨List.mem_of_getElem? (i := 1251) rfl, ⟨List.mem_of_getElem? (i := 84) (by decide +kernel), by decide +kernel, by decide +kernel, by decide +kernel⟩, by decide +kernel, Or.inr ⟨rfl, List.mem_of_getElem? (i := 1250) (by decide +kernel), List.mem_of_getElem? (i := 58) (by decide +kernel)⟩⟩
def xe196 : xME := (⟨"OverInDinghyModel", "coldOf", "(I)I"⟩, prog_12_method_50_code, 3, (some .int), 10, 1, 1, 1)
set_option maxRecDepth 30000 in
theorem xm196 : mokE xe196 := Or.inr ⟨List.mem_of_getElem? (i := 1255) rfl, ⟨List.mem_of_getElem? (i := 84) (by decide +kernel), by decide +kernel, by decide +kernel, by decide +kernel⟩, by decide +kernel, Or.inr ⟨rfl, List.mem_of_getElem? (i := 1254) (by decide +kernel), List.mem_of_getElem? (i := 59) (by decide +kernel)⟩⟩
def xe197 : xME := (⟨"OverInDinghyModel", "boat", "(II)J"⟩, prog_12_method_54_code, 3, (some .long), 10, 4, 2, 1)
set_option maxRecDepth 30000 in
theorem xm197 : mokE xe197 := Or.inr ⟨List.mem_of_getElem? (i := 1259) rfl, ⟨List.mem_of_getElem? (i := 84) (by decide +kernel), by decide +kernel, by decide +kernel, by decide +kernel⟩, by decide +kernel, Or.inr ⟨rfl, List.mem_of_getElem? (i := 1257) (by decide +kernel), List.mem_of_getElem? (i := 1258) (by decide +kernel)⟩⟩
def xe198 : xME := (⟨"OverInDinghyModel", "hand", "(II)J"⟩, prog_12_method_55_code, 3, (some .long), 10, 2, 2, 1)
set_option maxRecDepth 30000 in
theorem xm198 : mokE xe198 := Or.inr ⟨List.mem_of_getElem? (i := 1263) rfl, ⟨List.mem_of_getElem? (i := 84) (by decide +kernel), by decide +kernel, by decide +kernel, by decide +kernel⟩, by decide +kernel, Or.inr ⟨rfl, List.mem_of_getElem? (i := 1261) (by decide +kernel), List.mem_of_getElem? (i := 1262) (by decide +kernel)⟩⟩
def xe199 : xME := (⟨"OverInDinghyModel", "rights", "(IIII)J"⟩, prog_12_method_57_code, 8, (some .long), 10, 3, 4, 1)
set_option maxRecDepth 30000 in
theorem xm199 : mokE xe199 := Or.inr ⟨List.mem_of_getElem? (i := 1267) rfl, ⟨List.mem_of_getElem? (i := 84) (by decide +kernel), by decide +kernel, by decide +kernel, by decide +kernel⟩, by decide +kernel, Or.inr ⟨rfl, List.mem_of_getElem? (i := 1265) (by decide +kernel), List.mem_of_getElem? (i := 1266) (by decide +kernel)⟩⟩
def xmt9 : List xME := [xe180, xe181, xe182, xe183, xe184, xe185, xe186, xe187, xe188, xe189, xe190, xe191, xe192, xe193, xe194, xe195, xe196, xe197, xe198, xe199]
theorem xmt9_ok : ∀ e ∈ xmt9, mokE e := List.forall_mem_cons.mpr ⟨xm180, List.forall_mem_cons.mpr ⟨xm181, List.forall_mem_cons.mpr ⟨xm182, List.forall_mem_cons.mpr ⟨xm183, List.forall_mem_cons.mpr ⟨xm184, List.forall_mem_cons.mpr ⟨xm185, List.forall_mem_cons.mpr ⟨xm186, List.forall_mem_cons.mpr ⟨xm187, List.forall_mem_cons.mpr ⟨xm188, List.forall_mem_cons.mpr ⟨xm189, List.forall_mem_cons.mpr ⟨xm190, List.forall_mem_cons.mpr ⟨xm191, List.forall_mem_cons.mpr ⟨xm192, List.forall_mem_cons.mpr ⟨xm193, List.forall_mem_cons.mpr ⟨xm194, List.forall_mem_cons.mpr ⟨xm195, List.forall_mem_cons.mpr ⟨xm196, List.forall_mem_cons.mpr ⟨xm197, List.forall_mem_cons.mpr ⟨xm198, List.forall_mem_cons.mpr ⟨xm199, fun _ h => absurd h List.not_mem_nil⟩⟩⟩⟩⟩⟩⟩⟩⟩⟩⟩⟩⟩⟩⟩⟩⟩⟩⟩⟩
def xe200 : xME := (⟨"OverInDinghyModel", "rightsBy", "(IIII)Z"⟩, prog_12_method_56_code, 7, (some .boolean), 10, 2, 4, 1)
set_option maxRecDepth 30000 in
theorem xm200 : mokE xe200 := Or.inr ⟨List.mem_of_getElem? (i := 1272) rfl, ⟨List.mem_of_getElem? (i := 84) (by decide +kernel), by decide +kernel, by decide +kernel, by decide +kernel⟩, by decide +kernel, Or.inr ⟨rfl, List.mem_of_getElem? (i := 1271) (by decide +kernel), List.mem_of_getElem? (i := 60) (by decide +kernel)⟩⟩
def xe201 : xME := (⟨"OverInDinghyModel", "lightest", "(I)J"⟩, prog_12_method_58_code, 3, (some .long), 10, 2, 1, 1)
set_option maxRecDepth 30000 in
theorem xm201 : mokE xe201 := Or.inr ⟨List.mem_of_getElem? (i := 1277) rfl, ⟨List.mem_of_getElem? (i := 84) (by decide +kernel), by decide +kernel, by decide +kernel, by decide +kernel⟩, by decide +kernel, Or.inr ⟨rfl, List.mem_of_getElem? (i := 1275) (by decide +kernel), List.mem_of_getElem? (i := 1276) (by decide +kernel)⟩⟩
def xe202 : xME := (⟨"OverInDinghyModel", "round", "(I)J"⟩, prog_12_method_59_code, 3, (some .long), 10, 2, 1, 1)
set_option maxRecDepth 30000 in
theorem xm202 : mokE xe202 := Or.inr ⟨List.mem_of_getElem? (i := 1281) rfl, ⟨List.mem_of_getElem? (i := 84) (by decide +kernel), by decide +kernel, by decide +kernel, by decide +kernel⟩, by decide +kernel, Or.inr ⟨rfl, List.mem_of_getElem? (i := 1279) (by decide +kernel), List.mem_of_getElem? (i := 1280) (by decide +kernel)⟩⟩
def xe203 : xME := (⟨"OverInDinghyModel", "quickest", "(II)J"⟩, prog_12_method_63_code, 5, (some .long), 10, 7, 2, 1)
set_option maxRecDepth 30000 in
theorem xm203 : mokE xe203 := Or.inr ⟨List.mem_of_getElem? (i := 1285) rfl, ⟨List.mem_of_getElem? (i := 84) (by decide +kernel), by decide +kernel, by decide +kernel, by decide +kernel⟩, by decide +kernel, Or.inr ⟨rfl, List.mem_of_getElem? (i := 1283) (by decide +kernel), List.mem_of_getElem? (i := 1284) (by decide +kernel)⟩⟩
def xe204 : xME := (⟨"OverInDinghyModel", "layTwo", "(I)Z"⟩, prog_12_method_62_code, 3, (some .boolean), 10, 2, 1, 1)
set_option maxRecDepth 30000 in
theorem xm204 : mokE xe204 := Or.inr ⟨List.mem_of_getElem? (i := 1289) rfl, ⟨List.mem_of_getElem? (i := 84) (by decide +kernel), by decide +kernel, by decide +kernel, by decide +kernel⟩, by decide +kernel, Or.inr ⟨rfl, List.mem_of_getElem? (i := 1288) (by decide +kernel), List.mem_of_getElem? (i := 61) (by decide +kernel)⟩⟩
def xe205 : xME := (⟨"OverInDinghyModel", "ticksBy", "(II)I"⟩, prog_12_method_61_code, 5, (some .int), 10, 6, 2, 1)
set_option maxRecDepth 30000 in
theorem xm205 : mokE xe205 := Or.inr ⟨List.mem_of_getElem? (i := 1293) rfl, ⟨List.mem_of_getElem? (i := 84) (by decide +kernel), by decide +kernel, by decide +kernel, by decide +kernel⟩, by decide +kernel, Or.inr ⟨rfl, List.mem_of_getElem? (i := 1292) (by decide +kernel), List.mem_of_getElem? (i := 62) (by decide +kernel)⟩⟩
def xe206 : xME := (⟨"OverInDinghyModel", "goesTo", "(III)V"⟩, prog_12_method_60_code, 5, none, 10, 1, 3, 1)
set_option maxRecDepth 30000 in
theorem xm206 : mokE xe206 := Or.inr ⟨List.mem_of_getElem? (i := 1297) rfl, ⟨List.mem_of_getElem? (i := 84) (by decide +kernel), by decide +kernel, by decide +kernel, by decide +kernel⟩, by decide +kernel, Or.inr ⟨rfl, List.mem_of_getElem? (i := 1296) (by decide +kernel), List.mem_of_getElem? (i := 63) (by decide +kernel)⟩⟩
def xe207 : xME := (⟨"OverInDinghyModel", "tries", "(II)J"⟩, prog_12_method_64_code, 5, (some .long), 10, 2, 2, 1)
set_option maxRecDepth 30000 in
theorem xm207 : mokE xe207 := Or.inr ⟨List.mem_of_getElem? (i := 1301) rfl, ⟨List.mem_of_getElem? (i := 84) (by decide +kernel), by decide +kernel, by decide +kernel, by decide +kernel⟩, by decide +kernel, Or.inr ⟨rfl, List.mem_of_getElem? (i := 1299) (by decide +kernel), List.mem_of_getElem? (i := 1300) (by decide +kernel)⟩⟩
def xe208 : xME := (⟨"OverInDinghyModel", "airs", "(I)J"⟩, prog_12_method_66_code, 7, (some .long), 10, 1, 1, 1)
set_option maxRecDepth 30000 in
theorem xm208 : mokE xe208 := Or.inr ⟨List.mem_of_getElem? (i := 1305) rfl, ⟨List.mem_of_getElem? (i := 84) (by decide +kernel), by decide +kernel, by decide +kernel, by decide +kernel⟩, by decide +kernel, Or.inr ⟨rfl, List.mem_of_getElem? (i := 1303) (by decide +kernel), List.mem_of_getElem? (i := 1304) (by decide +kernel)⟩⟩
def xe209 : xME := (⟨"OverInDinghyModel", "bails", "(II)I"⟩, prog_12_method_65_code, 3, (some .int), 10, 0, 2, 0)
set_option maxRecDepth 30000 in
theorem xm209 : mokE xe209 := Or.inr ⟨List.mem_of_getElem? (i := 1309) rfl, ⟨List.mem_of_getElem? (i := 84) (by decide +kernel), by decide +kernel, by decide +kernel, by decide +kernel⟩, by decide +kernel, Or.inl ⟨rfl, List.mem_of_getElem? (i := 1308) (by decide +kernel)⟩⟩
def xe210 : xME := (⟨"OverInDinghyModel", "first", "(IIII)J"⟩, prog_12_method_70_code, 10, (some .long), 10, 2, 4, 1)
set_option maxRecDepth 30000 in
theorem xm210 : mokE xe210 := Or.inr ⟨List.mem_of_getElem? (i := 1313) rfl, ⟨List.mem_of_getElem? (i := 84) (by decide +kernel), by decide +kernel, by decide +kernel, by decide +kernel⟩, by decide +kernel, Or.inr ⟨rfl, List.mem_of_getElem? (i := 1311) (by decide +kernel), List.mem_of_getElem? (i := 1312) (by decide +kernel)⟩⟩
def xe211 : xME := (⟨"OverInDinghyModel", "harmBy", "(III)I"⟩, prog_12_method_69_code, 6, (some .int), 10, 0, 3, 1)
set_option maxRecDepth 30000 in
theorem xm211 : mokE xe211 := Or.inr ⟨List.mem_of_getElem? (i := 1319) rfl, ⟨List.mem_of_getElem? (i := 84) (by decide +kernel), by decide +kernel, by decide +kernel, by decide +kernel⟩, by decide +kernel, Or.inr ⟨rfl, List.mem_of_getElem? (i := 1318) (by decide +kernel), List.mem_of_getElem? (i := 64) (by decide +kernel)⟩⟩
def xe212 : xME := (⟨"OverInDinghyModel", "nextOrder", "(I)Z"⟩, prog_12_method_67_code, 6, (some .boolean), 10, 1, 1, 1)
set_option maxRecDepth 30000 in
theorem xm212 : mokE xe212 := Or.inr ⟨List.mem_of_getElem? (i := 1323) rfl, ⟨List.mem_of_getElem? (i := 84) (by decide +kernel), by decide +kernel, by decide +kernel, by decide +kernel⟩, by decide +kernel, Or.inr ⟨rfl, List.mem_of_getElem? (i := 1322) (by decide +kernel), List.mem_of_getElem? (i := 65) (by decide +kernel)⟩⟩
def xe213 : xME := (⟨"OverInDinghyModel", "swap", "(II)V"⟩, prog_12_method_68_code, 4, none, 10, 0, 2, 1)
set_option maxRecDepth 30000 in
theorem xm213 : mokE xe213 := Or.inr ⟨List.mem_of_getElem? (i := 1327) rfl, ⟨List.mem_of_getElem? (i := 84) (by decide +kernel), by decide +kernel, by decide +kernel, by decide +kernel⟩, by decide +kernel, Or.inr ⟨rfl, List.mem_of_getElem? (i := 1326) (by decide +kernel), List.mem_of_getElem? (i := 66) (by decide +kernel)⟩⟩
def xe214 : xME := (⟨"OverInDinghyModel", "over", "(IIII)J"⟩, prog_12_method_75_code, 5, (some .long), 10, 2, 4, 1)
set_option maxRecDepth 30000 in
theorem xm214 : mokE xe214 := Or.inr ⟨List.mem_of_getElem? (i := 1331) rfl, ⟨List.mem_of_getElem? (i := 84) (by decide +kernel), by decide +kernel, by decide +kernel, by decide +kernel⟩, by decide +kernel, Or.inr ⟨rfl, List.mem_of_getElem? (i := 1329) (by decide +kernel), List.mem_of_getElem? (i := 1330) (by decide +kernel)⟩⟩
def xe215 : xME := (⟨"OverInDinghyModel", "areOver", "(II)Z"⟩, prog_12_method_74_code, 2, (some .boolean), 10, 1, 2, 0)
set_option maxRecDepth 30000 in
theorem xm215 : mokE xe215 := Or.inr ⟨List.mem_of_getElem? (i := 1334) rfl, ⟨List.mem_of_getElem? (i := 84) (by decide +kernel), by decide +kernel, by decide +kernel, by decide +kernel⟩, by decide +kernel, Or.inl ⟨rfl, List.mem_of_getElem? (i := 1333) (by decide +kernel)⟩⟩
def xe216 : xME := (⟨"OverInDinghyModel", "overWays", "(III)J"⟩, prog_12_method_72_code, 8, (some .long), 10, 1, 3, 0)
set_option maxRecDepth 30000 in
theorem xm216 : mokE xe216 := Or.inr ⟨List.mem_of_getElem? (i := 1337) rfl, ⟨List.mem_of_getElem? (i := 84) (by decide +kernel), by decide +kernel, by decide +kernel, by decide +kernel⟩, by decide +kernel, Or.inl ⟨rfl, List.mem_of_getElem? (i := 1336) (by decide +kernel)⟩⟩
def xe217 : xME := (⟨"OverInDinghyModel", "power", "(JI)J"⟩, prog_12_method_71_code, 6, (some .long), 10, 0, 2, 0)
set_option maxRecDepth 30000 in
theorem xm217 : mokE xe217 := Or.inr ⟨List.mem_of_getElem? (i := 1340) rfl, ⟨List.mem_of_getElem? (i := 84) (by decide +kernel), by decide +kernel, by decide +kernel, by decide +kernel⟩, by decide +kernel, Or.inl ⟨rfl, List.mem_of_getElem? (i := 1339) (by decide +kernel)⟩⟩
def xe218 : xME := (⟨"OverInDinghyModel", "partOf", "(JJI)J"⟩, prog_12_method_73_code, 11, (some .long), 10, 0, 3, 0)
set_option maxRecDepth 30000 in
theorem xm218 : mokE xe218 := Or.inr ⟨List.mem_of_getElem? (i := 1343) rfl, ⟨List.mem_of_getElem? (i := 84) (by decide +kernel), by decide +kernel, by decide +kernel, by decide +kernel⟩, by decide +kernel, Or.inl ⟨rfl, List.mem_of_getElem? (i := 1342) (by decide +kernel)⟩⟩
def xe219 : xME := (⟨"OverInDinghyModel", "staysIn", "(III)J"⟩, prog_12_method_76_code, 5, (some .long), 10, 2, 3, 1)
set_option maxRecDepth 30000 in
theorem xm219 : mokE xe219 := Or.inr ⟨List.mem_of_getElem? (i := 1347) rfl, ⟨List.mem_of_getElem? (i := 84) (by decide +kernel), by decide +kernel, by decide +kernel, by decide +kernel⟩, by decide +kernel, Or.inr ⟨rfl, List.mem_of_getElem? (i := 1345) (by decide +kernel), List.mem_of_getElem? (i := 1346) (by decide +kernel)⟩⟩
def xmt10 : List xME := [xe200, xe201, xe202, xe203, xe204, xe205, xe206, xe207, xe208, xe209, xe210, xe211, xe212, xe213, xe214, xe215, xe216, xe217, xe218, xe219]
theorem xmt10_ok : ∀ e ∈ xmt10, mokE e := List.forall_mem_cons.mpr ⟨xm200, List.forall_mem_cons.mpr ⟨xm201, List.forall_mem_cons.mpr ⟨xm202, List.forall_mem_cons.mpr ⟨xm203, List.forall_mem_cons.mpr ⟨xm204, List.forall_mem_cons.mpr ⟨xm205, List.forall_mem_cons.mpr ⟨xm206, List.forall_mem_cons.mpr ⟨xm207, List.forall_mem_cons.mpr ⟨xm208, List.forall_mem_cons.mpr ⟨xm209, List.forall_mem_cons.mpr ⟨xm210, List.forall_mem_cons.mpr ⟨xm211, List.forall_mem_cons.mpr ⟨xm212, List.forall_mem_cons.mpr ⟨xm213, List.forall_mem_cons.mpr ⟨xm214, List.forall_mem_cons.mpr ⟨xm215, List.forall_mem_cons.mpr ⟨xm216, List.forall_mem_cons.mpr ⟨xm217, List.forall_mem_cons.mpr ⟨xm218, List.forall_mem_cons.mpr ⟨xm219, fun _ h => absurd h List.not_mem_nil⟩⟩⟩⟩⟩⟩⟩⟩⟩⟩⟩⟩⟩⟩⟩⟩⟩⟩⟩⟩
def xe220 : xME := (⟨"OverInDinghyModel", "heads", "(II)J"⟩, prog_12_method_77_code, 8, (some .long), 10, 2, 2, 1)
set_option maxRecDepth 30000 in
theorem xm220 : mokE xe220 := Or.inr ⟨List.mem_of_getElem? (i := 1353) rfl, ⟨List.mem_of_getElem? (i := 84) (by decide +kernel), by decide +kernel, by decide +kernel, by decide +kernel⟩, by decide +kernel, Or.inr ⟨rfl, List.mem_of_getElem? (i := 1351) (by decide +kernel), List.mem_of_getElem? (i := 1352) (by decide +kernel)⟩⟩
def xe221 : xME := (⟨"OverInDinghyModel", "image", "(I)J"⟩, prog_12_method_78_code, 3, (some .long), 10, 1, 1, 1)
set_option maxRecDepth 30000 in
theorem xm221 : mokE xe221 := Or.inr ⟨List.mem_of_getElem? (i := 1358) rfl, ⟨List.mem_of_getElem? (i := 84) (by decide +kernel), by decide +kernel, by decide +kernel, by decide +kernel⟩, by decide +kernel, Or.inr ⟨rfl, List.mem_of_getElem? (i := 1356) (by decide +kernel), List.mem_of_getElem? (i := 1357) (by decide +kernel)⟩⟩
def xe222 : xME := (⟨"OverInDinghyModel", "restore", "(I)J"⟩, prog_12_method_79_code, 3, (some .long), 10, 1, 1, 1)
set_option maxRecDepth 30000 in
theorem xm222 : mokE xe222 := Or.inr ⟨List.mem_of_getElem? (i := 1362) rfl, ⟨List.mem_of_getElem? (i := 84) (by decide +kernel), by decide +kernel, by decide +kernel, by decide +kernel⟩, by decide +kernel, Or.inr ⟨rfl, List.mem_of_getElem? (i := 1360) (by decide +kernel), List.mem_of_getElem? (i := 1361) (by decide +kernel)⟩⟩
def xe223 : xME := (⟨"OverInDinghyModel", "kind", "(I)J"⟩, prog_12_method_82_code, 2, (some .long), 10, 2, 1, 1)
set_option maxRecDepth 30000 in
theorem xm223 : mokE xe223 := Or.inr ⟨List.mem_of_getElem? (i := 1366) rfl, ⟨List.mem_of_getElem? (i := 84) (by decide +kernel), by decide +kernel, by decide +kernel, by decide +kernel⟩, by decide +kernel, Or.inr ⟨rfl, List.mem_of_getElem? (i := 1364) (by decide +kernel), List.mem_of_getElem? (i := 1365) (by decide +kernel)⟩⟩
def xe224 : xME := (⟨"OverInDinghyModel", "kindOf", "(I)I"⟩, prog_12_method_81_code, 3, (some .int), 10, 0, 1, 1)
set_option maxRecDepth 30000 in
theorem xm224 : mokE xe224 := Or.inr ⟨List.mem_of_getElem? (i := 1370) rfl, ⟨List.mem_of_getElem? (i := 84) (by decide +kernel), by decide +kernel, by decide +kernel, by decide +kernel⟩, by decide +kernel, Or.inr ⟨rfl, List.mem_of_getElem? (i := 1369) (by decide +kernel), List.mem_of_getElem? (i := 67) (by decide +kernel)⟩⟩
def xe225 : xME := (⟨"OverInDinghyModel", "as", "(II)J"⟩, prog_12_method_83_code, 3, (some .long), 10, 2, 2, 1)
set_option maxRecDepth 30000 in
theorem xm225 : mokE xe225 := Or.inr ⟨List.mem_of_getElem? (i := 1374) rfl, ⟨List.mem_of_getElem? (i := 84) (by decide +kernel), by decide +kernel, by decide +kernel, by decide +kernel⟩, by decide +kernel, Or.inr ⟨rfl, List.mem_of_getElem? (i := 1372) (by decide +kernel), List.mem_of_getElem? (i := 1373) (by decide +kernel)⟩⟩
def xe226 : xME := (⟨"OverInDinghyModel", "isKindOf", "(II)Z"⟩, prog_12_method_80_code, 2, (some .boolean), 10, 0, 2, 0)
set_option maxRecDepth 30000 in
theorem xm226 : mokE xe226 := Or.inr ⟨List.mem_of_getElem? (i := 1378) rfl, ⟨List.mem_of_getElem? (i := 84) (by decide +kernel), by decide +kernel, by decide +kernel, by decide +kernel⟩, by decide +kernel, Or.inl ⟨rfl, List.mem_of_getElem? (i := 1377) (by decide +kernel)⟩⟩
def xe227 : xME := (⟨"OverInDinghyModel", "ask", "(II)J"⟩, prog_12_method_90_code, 4, (some .long), 10, 4, 2, 1)
set_option maxRecDepth 30000 in
theorem xm227 : mokE xe227 := Or.inr ⟨List.mem_of_getElem? (i := 1382) rfl, ⟨List.mem_of_getElem? (i := 84) (by decide +kernel), by decide +kernel, by decide +kernel, by decide +kernel⟩, by decide +kernel, Or.inr ⟨rfl, List.mem_of_getElem? (i := 1380) (by decide +kernel), List.mem_of_getElem? (i := 1381) (by decide +kernel)⟩⟩
def xe228 : xME := (⟨"OverInDinghyModel", "lyingSize", "(II)I"⟩, prog_12_method_87_code, 4, (some .int), 10, 2, 2, 1)
set_option maxRecDepth 30000 in
theorem xm228 : mokE xe228 := Or.inr ⟨List.mem_of_getElem? (i := 1386) rfl, ⟨List.mem_of_getElem? (i := 84) (by decide +kernel), by decide +kernel, by decide +kernel, by decide +kernel⟩, by decide +kernel, Or.inr ⟨rfl, List.mem_of_getElem? (i := 1385) (by decide +kernel), List.mem_of_getElem? (i := 68) (by decide +kernel)⟩⟩
def xe229 : xME := (⟨"OverInDinghyModel", "began", "(I)V"⟩, prog_12_method_84_code, 2, none, 10, 0, 1, 1)
set_option maxRecDepth 30000 in
theorem xm229 : mokE xe229 := Or.inr ⟨List.mem_of_getElem? (i := 1390) rfl, ⟨List.mem_of_getElem? (i := 84) (by decide +kernel), by decide +kernel, by decide +kernel, by decide +kernel⟩, by decide +kernel, Or.inr ⟨rfl, List.mem_of_getElem? (i := 1389) (by decide +kernel), List.mem_of_getElem? (i := 69) (by decide +kernel)⟩⟩
def xe230 : xME := (⟨"OverInDinghyModel", "plainSize", "(I)I"⟩, prog_12_method_85_code, 2, (some .int), 10, 1, 1, 1)
set_option maxRecDepth 30000 in
theorem xm230 : mokE xe230 := Or.inr ⟨List.mem_of_getElem? (i := 1394) rfl, ⟨List.mem_of_getElem? (i := 84) (by decide +kernel), by decide +kernel, by decide +kernel, by decide +kernel⟩, by decide +kernel, Or.inr ⟨rfl, List.mem_of_getElem? (i := 1393) (by decide +kernel), List.mem_of_getElem? (i := 70) (by decide +kernel)⟩⟩
def xe231 : xME := (⟨"OverInDinghyModel", "lyingMark", "(II)I"⟩, prog_12_method_86_code, 3, (some .int), 10, 1, 2, 1)
set_option maxRecDepth 30000 in
theorem xm231 : mokE xe231 := Or.inr ⟨List.mem_of_getElem? (i := 1398) rfl, ⟨List.mem_of_getElem? (i := 84) (by decide +kernel), by decide +kernel, by decide +kernel, by decide +kernel⟩, by decide +kernel, Or.inr ⟨rfl, List.mem_of_getElem? (i := 1397) (by decide +kernel), List.mem_of_getElem? (i := 71) (by decide +kernel)⟩⟩
def xe232 : xME := (⟨"OverInDinghyModel", "otherSize", "(II)I"⟩, prog_12_method_88_code, 3, (some .int), 10, 2, 2, 1)
set_option maxRecDepth 30000 in
theorem xm232 : mokE xe232 := Or.inr ⟨List.mem_of_getElem? (i := 1402) rfl, ⟨List.mem_of_getElem? (i := 84) (by decide +kernel), by decide +kernel, by decide +kernel, by decide +kernel⟩, by decide +kernel, Or.inr ⟨rfl, List.mem_of_getElem? (i := 1401) (by decide +kernel), List.mem_of_getElem? (i := 72) (by decide +kernel)⟩⟩
def xe233 : xME := (⟨"OverInDinghyModel", "otherMark", "(II)I"⟩, prog_12_method_89_code, 4, (some .int), 10, 3, 2, 1)
set_option maxRecDepth 30000 in
theorem xm233 : mokE xe233 := Or.inr ⟨List.mem_of_getElem? (i := 1406) rfl, ⟨List.mem_of_getElem? (i := 84) (by decide +kernel), by decide +kernel, by decide +kernel, by decide +kernel⟩, by decide +kernel, Or.inr ⟨rfl, List.mem_of_getElem? (i := 1405) (by decide +kernel), List.mem_of_getElem? (i := 73) (by decide +kernel)⟩⟩
def xe234 : xME := (⟨"OverInDinghyModel", "trace", "(I)I"⟩, prog_12_method_91_code, 2, (some .int), 10, 1, 1, 1)
set_option maxRecDepth 30000 in
theorem xm234 : mokE xe234 := Or.inr ⟨List.mem_of_getElem? (i := 1410) rfl, ⟨List.mem_of_getElem? (i := 84) (by decide +kernel), by decide +kernel, by decide +kernel, by decide +kernel⟩, by decide +kernel, Or.inr ⟨rfl, List.mem_of_getElem? (i := 1408) (by decide +kernel), List.mem_of_getElem? (i := 1409) (by decide +kernel)⟩⟩
def xe235 : xME := (⟨"OverInDinghyModel", "count", "(I)J"⟩, prog_12_method_92_code, 4, (some .long), 10, 1, 1, 1)
set_option maxRecDepth 30000 in
theorem xm235 : mokE xe235 := Or.inr ⟨List.mem_of_getElem? (i := 1414) rfl, ⟨List.mem_of_getElem? (i := 84) (by decide +kernel), by decide +kernel, by decide +kernel, by decide +kernel⟩, by decide +kernel, Or.inr ⟨rfl, List.mem_of_getElem? (i := 1412) (by decide +kernel), List.mem_of_getElem? (i := 1413) (by decide +kernel)⟩⟩
def xe236 : xME := (⟨"OverInDinghyModel", "status", "()I"⟩, prog_12_method_93_code, 1, (some .int), 10, 0, 0, 1)
set_option maxRecDepth 30000 in
theorem xm236 : mokE xe236 := Or.inr ⟨List.mem_of_getElem? (i := 1418) rfl, ⟨List.mem_of_getElem? (i := 84) (by decide +kernel), by decide +kernel, by decide +kernel, by decide +kernel⟩, by decide +kernel, Or.inr ⟨rfl, List.mem_of_getElem? (i := 1416) (by decide +kernel), List.mem_of_getElem? (i := 1417) (by decide +kernel)⟩⟩
def xe237 : xME := (⟨"OverInDinghy$Asks", "begin", "(LOverInDinghy$Asks;ILOverInDinghy$Club;II)J"⟩, prog_2_method_7_code, 7, (some .long), 1, 2, 5, 0)
set_option maxRecDepth 30000 in
theorem xm237 : mokE xe237 := Or.inr ⟨List.mem_of_getElem? (i := 899) rfl, ⟨List.mem_of_getElem? (i := 83) (by decide +kernel), by decide +kernel, by decide +kernel, by decide +kernel⟩, by decide +kernel, Or.inl ⟨rfl, List.mem_of_getElem? (i := 898) (by decide +kernel)⟩⟩
def xe238 : xME := (⟨"OverInDinghy$Asks", "begin", "(LOverInDinghy$Asks;ILOverInDinghy$Club;II)J"⟩, prog_2_method_7_code, 7, (some .long), 1, 3, 5, 0)
set_option maxRecDepth 30000 in
theorem xm238 : mokE xe238 := Or.inr ⟨List.mem_of_getElem? (i := 899) rfl, ⟨List.mem_of_getElem? (i := 83) (by decide +kernel), by decide +kernel, by decide +kernel, by decide +kernel⟩, by decide +kernel, Or.inl ⟨rfl, List.mem_of_getElem? (i := 898) (by decide +kernel)⟩⟩
def xe239 : xME := (⟨"OverInDinghy$Asks", "begin", "(LOverInDinghy$Asks;ILOverInDinghy$Club;II)J"⟩, prog_2_method_7_code, 7, (some .long), 1, 4, 5, 0)
set_option maxRecDepth 30000 in
theorem xm239 : mokE xe239 := Or.inr ⟨List.mem_of_getElem? (i := 899) rfl, ⟨List.mem_of_getElem? (i := 83) (by decide +kernel), by decide +kernel, by decide +kernel, by decide +kernel⟩, by decide +kernel, Or.inl ⟨rfl, List.mem_of_getElem? (i := 898) (by decide +kernel)⟩⟩
def xmt11 : List xME := [xe220, xe221, xe222, xe223, xe224, xe225, xe226, xe227, xe228, xe229, xe230, xe231, xe232, xe233, xe234, xe235, xe236, xe237, xe238, xe239]
theorem xmt11_ok : ∀ e ∈ xmt11, mokE e := List.forall_mem_cons.mpr ⟨xm220, List.forall_mem_cons.mpr ⟨xm221, List.forall_mem_cons.mpr ⟨xm222, List.forall_mem_cons.mpr ⟨xm223, List.forall_mem_cons.mpr ⟨xm224, List.forall_mem_cons.mpr ⟨xm225, List.forall_mem_cons.mpr ⟨xm226, List.forall_mem_cons.mpr ⟨xm227, List.forall_mem_cons.mpr ⟨xm228, List.forall_mem_cons.mpr ⟨xm229, List.forall_mem_cons.mpr ⟨xm230, List.forall_mem_cons.mpr ⟨xm231, List.forall_mem_cons.mpr ⟨xm232, List.forall_mem_cons.mpr ⟨xm233, List.forall_mem_cons.mpr ⟨xm234, List.forall_mem_cons.mpr ⟨xm235, List.forall_mem_cons.mpr ⟨xm236, List.forall_mem_cons.mpr ⟨xm237, List.forall_mem_cons.mpr ⟨xm238, List.forall_mem_cons.mpr ⟨xm239, fun _ h => absurd h List.not_mem_nil⟩⟩⟩⟩⟩⟩⟩⟩⟩⟩⟩⟩⟩⟩⟩⟩⟩⟩⟩⟩
def xe240 : xME := (⟨"OverInDinghy$Asks", "begin", "(LOverInDinghy$Asks;ILOverInDinghy$Club;II)J"⟩, prog_2_method_7_code, 7, (some .long), 1, 5, 5, 0)
set_option maxRecDepth 30000 in
theorem xm240 : mokE xe240 := Or.inr ⟨List.mem_of_getElem? (i := 899) rfl, ⟨List.mem_of_getElem? (i := 83) (by decide +kernel), by decide +kernel, by decide +kernel, by decide +kernel⟩, by decide +kernel, Or.inl ⟨rfl, List.mem_of_getElem? (i := 898) (by decide +kernel)⟩⟩
def xe241 : xME := (⟨"OverInDinghy$Asks", "begin", "(LOverInDinghy$Asks;ILOverInDinghy$Club;II)J"⟩, prog_2_method_7_code, 7, (some .long), 1, 6, 5, 0)
set_option maxRecDepth 30000 in
theorem xm241 : mokE xe241 := Or.inr ⟨List.mem_of_getElem? (i := 899) rfl, ⟨List.mem_of_getElem? (i := 83) (by decide +kernel), by decide +kernel, by decide +kernel, by decide +kernel⟩, by decide +kernel, Or.inl ⟨rfl, List.mem_of_getElem? (i := 898) (by decide +kernel)⟩⟩
def xe242 : xME := (⟨"OverInDinghy$Asks", "begin", "(LOverInDinghy$Asks;ILOverInDinghy$Club;II)J"⟩, prog_2_method_7_code, 7, (some .long), 1, 7, 5, 0)
set_option maxRecDepth 30000 in
theorem xm242 : mokE xe242 := Or.inr ⟨List.mem_of_getElem? (i := 899) rfl, ⟨List.mem_of_getElem? (i := 83) (by decide +kernel), by decide +kernel, by decide +kernel, by decide +kernel⟩, by decide +kernel, Or.inl ⟨rfl, List.mem_of_getElem? (i := 898) (by decide +kernel)⟩⟩
def xe243 : xME := (⟨"OverInDinghy$Asks", "begin", "(LOverInDinghy$Asks;ILOverInDinghy$Club;II)J"⟩, prog_2_method_7_code, 7, (some .long), 1, 8, 5, 0)
set_option maxRecDepth 30000 in
theorem xm243 : mokE xe243 := Or.inr ⟨List.mem_of_getElem? (i := 899) rfl, ⟨List.mem_of_getElem? (i := 83) (by decide +kernel), by decide +kernel, by decide +kernel, by decide +kernel⟩, by decide +kernel, Or.inl ⟨rfl, List.mem_of_getElem? (i := 898) (by decide +kernel)⟩⟩
def xmt12 : List xME := [xe240, xe241, xe242, xe243]
theorem xmt12_ok : ∀ e ∈ xmt12, mokE e := List.forall_mem_cons.mpr ⟨xm240, List.forall_mem_cons.mpr ⟨xm241, List.forall_mem_cons.mpr ⟨xm242, List.forall_mem_cons.mpr ⟨xm243, fun _ h => absurd h List.not_mem_nil⟩⟩⟩⟩
def xmt : List xME := xmt0 ++ xmt1 ++ xmt2 ++ xmt3 ++ xmt4 ++ xmt5 ++ xmt6 ++ xmt7 ++ xmt8 ++ xmt9 ++ xmt10 ++ xmt11 ++ xmt12
theorem xmt_app {a b : List xME} (ha : ∀ e ∈ a, mokE e) (hb : ∀ e ∈ b, mokE e) : ∀ e ∈ a ++ b, mokE e := fun e h => (List.mem_append.mp h).elim (ha e) (hb e)
theorem xmt_ok : ∀ e ∈ xmt, mokE e := xmt_app (xmt_app (xmt_app (xmt_app (xmt_app (xmt_app (xmt_app (xmt_app (xmt_app (xmt_app (xmt_app (xmt_app (xmt0_ok) xmt1_ok) xmt2_ok) xmt3_ok) xmt4_ok) xmt5_ok) xmt6_ok) xmt7_ok) xmt8_ok) xmt9_ok) xmt10_ok) xmt11_ok) xmt12_ok
def xed : xME := (⟨"", "", ""⟩, ⟨#[]⟩, 0, none, 0, 0, 0, 2)
def xe (y : Nat) : xME := xmt.getD y xed
theorem xe_ok (y : Nat) : mokE (xe y) := by
  unfold xe
  rw [List.getD_eq_getElem?_getD]
  cases h : xmt[y]? with
  | none => exact Or.inl rfl
  | some e => exact xmt_ok e (List.mem_of_getElem? h)
