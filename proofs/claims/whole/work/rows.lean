section
-- ===== PART A: goes FIRST, ahead of the names: the tables' words, and 'selects' of the private methods out of them =====
/-- a private method of a class that the tables say can be made, by its rows of tables_1 -/
def lw_okq (q : MethodName × Nat) : Prop := (q.1.cls ≠ "java/lang/invoke/MethodHandle" ∧ q.1.cls ≠ "java/lang/invoke/VarHandle") ∧ Cond.instantiable q.1.cls q.2 ∈ tables_1 ∧ Cond.privateMethod q.1 ∈ tables_1 ∧ Cond.instanceMethod q.1 ∈ tables_1
theorem lw_p0 : lw_okq (⟨"OverInDinghy", "found", "(I)J"⟩, 12) := ⟨⟨by decide +kernel, by decide +kernel⟩, List.mem_of_getElem? (i := 20) (by decide +kernel), List.mem_of_getElem? (i := 315) (by decide +kernel), List.mem_of_getElem? (i := 316) (by decide +kernel)⟩
theorem lw_p1 : lw_okq (⟨"OverInDinghy", "fine", "(J)J"⟩, 12) := ⟨⟨by decide +kernel, by decide +kernel⟩, List.mem_of_getElem? (i := 20) (by decide +kernel), List.mem_of_getElem? (i := 324) (by decide +kernel), List.mem_of_getElem? (i := 325) (by decide +kernel)⟩
theorem lw_p2 : lw_okq (⟨"OverInDinghy$Reader", "step", "()V"⟩, 9) := ⟨⟨by decide +kernel, by decide +kernel⟩, List.mem_of_getElem? (i := 50) (by decide +kernel), List.mem_of_getElem? (i := 385) (by decide +kernel), List.mem_of_getElem? (i := 386) (by decide +kernel)⟩
theorem lw_p3 : lw_okq (⟨"OverInDinghy$Reader", "stepName", "()V"⟩, 9) := ⟨⟨by decide +kernel, by decide +kernel⟩, List.mem_of_getElem? (i := 50) (by decide +kernel), List.mem_of_getElem? (i := 392) (by decide +kernel), List.mem_of_getElem? (i := 393) (by decide +kernel)⟩
theorem lw_p4 : lw_okq (⟨"OverInDinghy$Reader", "stepNumber", "()V"⟩, 9) := ⟨⟨by decide +kernel, by decide +kernel⟩, List.mem_of_getElem? (i := 50) (by decide +kernel), List.mem_of_getElem? (i := 399) (by decide +kernel), List.mem_of_getElem? (i := 400) (by decide +kernel)⟩
theorem lw_p5 : lw_okq (⟨"OverInDinghy$Reader", "readSea", "(LOverInDinghy$Club;)Z"⟩, 9) := ⟨⟨by decide +kernel, by decide +kernel⟩, List.mem_of_getElem? (i := 50) (by decide +kernel), List.mem_of_getElem? (i := 403) (by decide +kernel), List.mem_of_getElem? (i := 404) (by decide +kernel)⟩
theorem lw_p6 : lw_okq (⟨"OverInDinghy$Reader", "takeWord", "(Ljava/lang/String;Z)Z"⟩, 9) := ⟨⟨by decide +kernel, by decide +kernel⟩, List.mem_of_getElem? (i := 50) (by decide +kernel), List.mem_of_getElem? (i := 408) (by decide +kernel), List.mem_of_getElem? (i := 409) (by decide +kernel)⟩
theorem lw_p7 : lw_okq (⟨"OverInDinghy$Reader", "isWord", "(Ljava/lang/String;)Z"⟩, 9) := ⟨⟨by decide +kernel, by decide +kernel⟩, List.mem_of_getElem? (i := 50) (by decide +kernel), List.mem_of_getElem? (i := 412) (by decide +kernel), List.mem_of_getElem? (i := 413) (by decide +kernel)⟩
theorem lw_p8 : lw_okq (⟨"OverInDinghy$Reader", "refuse", "(II)Z"⟩, 9) := ⟨⟨by decide +kernel, by decide +kernel⟩, List.mem_of_getElem? (i := 50) (by decide +kernel), List.mem_of_getElem? (i := 464) (by decide +kernel), List.mem_of_getElem? (i := 465) (by decide +kernel)⟩
theorem lw_p9 : lw_okq (⟨"OverInDinghy$Reader", "takeNumber", "(II)Z"⟩, 9) := ⟨⟨by decide +kernel, by decide +kernel⟩, List.mem_of_getElem? (i := 50) (by decide +kernel), List.mem_of_getElem? (i := 468) (by decide +kernel), List.mem_of_getElem? (i := 469) (by decide +kernel)⟩
theorem lw_p10 : lw_okq (⟨"OverInDinghy$Reader", "takeSign", "()Z"⟩, 9) := ⟨⟨by decide +kernel, by decide +kernel⟩, List.mem_of_getElem? (i := 50) (by decide +kernel), List.mem_of_getElem? (i := 473) (by decide +kernel), List.mem_of_getElem? (i := 474) (by decide +kernel)⟩
theorem lw_p11 : lw_okq (⟨"OverInDinghy$Reader", "readBoat", "(LOverInDinghy$Club;)Z"⟩, 9) := ⟨⟨by decide +kernel, by decide +kernel⟩, List.mem_of_getElem? (i := 50) (by decide +kernel), List.mem_of_getElem? (i := 478) (by decide +kernel), List.mem_of_getElem? (i := 479) (by decide +kernel)⟩
theorem lw_p12 : lw_okq (⟨"OverInDinghy$Reader", "readHand", "(LOverInDinghy$Club;)Z"⟩, 9) := ⟨⟨by decide +kernel, by decide +kernel⟩, List.mem_of_getElem? (i := 50) (by decide +kernel), List.mem_of_getElem? (i := 482) (by decide +kernel), List.mem_of_getElem? (i := 483) (by decide +kernel)⟩
theorem lw_p13 : lw_okq (⟨"OverInDinghy$Club", "sendAll", "(III)V"⟩, 19) := ⟨⟨by decide +kernel, by decide +kernel⟩, List.mem_of_getElem? (i := 88) (by decide +kernel), List.mem_of_getElem? (i := 530) (by decide +kernel), List.mem_of_getElem? (i := 531) (by decide +kernel)⟩
theorem lw_p14 : lw_okq (⟨"OverInDinghy$Club", "comeUp", "(ILOverInDinghy$Draws;)V"⟩, 19) := ⟨⟨by decide +kernel, by decide +kernel⟩, List.mem_of_getElem? (i := 88) (by decide +kernel), List.mem_of_getElem? (i := 579) (by decide +kernel), List.mem_of_getElem? (i := 580) (by decide +kernel)⟩
theorem lw_p15 : lw_okq (⟨"OverInDinghy$Club", "fillMast", "(I)V"⟩, 19) := ⟨⟨by decide +kernel, by decide +kernel⟩, List.mem_of_getElem? (i := 88) (by decide +kernel), List.mem_of_getElem? (i := 590) (by decide +kernel), List.mem_of_getElem? (i := 591) (by decide +kernel)⟩
def lw_privs_1 : List (MethodName × Nat) := [(⟨"OverInDinghy", "found", "(I)J"⟩, 12), (⟨"OverInDinghy", "fine", "(J)J"⟩, 12), (⟨"OverInDinghy$Reader", "step", "()V"⟩, 9), (⟨"OverInDinghy$Reader", "stepName", "()V"⟩, 9), (⟨"OverInDinghy$Reader", "stepNumber", "()V"⟩, 9), (⟨"OverInDinghy$Reader", "readSea", "(LOverInDinghy$Club;)Z"⟩, 9), (⟨"OverInDinghy$Reader", "takeWord", "(Ljava/lang/String;Z)Z"⟩, 9), (⟨"OverInDinghy$Reader", "isWord", "(Ljava/lang/String;)Z"⟩, 9), (⟨"OverInDinghy$Reader", "refuse", "(II)Z"⟩, 9), (⟨"OverInDinghy$Reader", "takeNumber", "(II)Z"⟩, 9), (⟨"OverInDinghy$Reader", "takeSign", "()Z"⟩, 9), (⟨"OverInDinghy$Reader", "readBoat", "(LOverInDinghy$Club;)Z"⟩, 9), (⟨"OverInDinghy$Reader", "readHand", "(LOverInDinghy$Club;)Z"⟩, 9), (⟨"OverInDinghy$Club", "sendAll", "(III)V"⟩, 19), (⟨"OverInDinghy$Club", "comeUp", "(ILOverInDinghy$Draws;)V"⟩, 19), (⟨"OverInDinghy$Club", "fillMast", "(I)V"⟩, 19)]
theorem lw_r1 : ∀ q ∈ lw_privs_1, lw_okq q := List.forall_mem_cons.mpr ⟨lw_p0, List.forall_mem_cons.mpr ⟨lw_p1, List.forall_mem_cons.mpr ⟨lw_p2, List.forall_mem_cons.mpr ⟨lw_p3, List.forall_mem_cons.mpr ⟨lw_p4, List.forall_mem_cons.mpr ⟨lw_p5, List.forall_mem_cons.mpr ⟨lw_p6, List.forall_mem_cons.mpr ⟨lw_p7, List.forall_mem_cons.mpr ⟨lw_p8, List.forall_mem_cons.mpr ⟨lw_p9, List.forall_mem_cons.mpr ⟨lw_p10, List.forall_mem_cons.mpr ⟨lw_p11, List.forall_mem_cons.mpr ⟨lw_p12, List.forall_mem_cons.mpr ⟨lw_p13, List.forall_mem_cons.mpr ⟨lw_p14, List.forall_mem_cons.mpr ⟨lw_p15, fun _ h => absurd h List.not_mem_nil⟩⟩⟩⟩⟩⟩⟩⟩⟩⟩⟩⟩⟩⟩⟩⟩
theorem lw_p16 : lw_okq (⟨"OverInDinghy$Club", "rideOrBail", "(ILOverInDinghy$Draws;)V"⟩, 19) := ⟨⟨by decide +kernel, by decide +kernel⟩, List.mem_of_getElem? (i := 88) (by decide +kernel), List.mem_of_getElem? (i := 597) (by decide +kernel), List.mem_of_getElem? (i := 598) (by decide +kernel)⟩
theorem lw_p17 : lw_okq (⟨"OverInDinghy$Club", "chill", "(I)V"⟩, 19) := ⟨⟨by decide +kernel, by decide +kernel⟩, List.mem_of_getElem? (i := 88) (by decide +kernel), List.mem_of_getElem? (i := 608) (by decide +kernel), List.mem_of_getElem? (i := 609) (by decide +kernel)⟩
theorem lw_p18 : lw_okq (⟨"OverInDinghy$Search", "nextAble", "(II)I"⟩, 7) := ⟨⟨by decide +kernel, by decide +kernel⟩, List.mem_of_getElem? (i := 205) (by decide +kernel), List.mem_of_getElem? (i := 677) (by decide +kernel), List.mem_of_getElem? (i := 678) (by decide +kernel)⟩
theorem lw_p19 : lw_okq (⟨"OverInDinghy$Search", "keep", "(II)V"⟩, 7) := ⟨⟨by decide +kernel, by decide +kernel⟩, List.mem_of_getElem? (i := 205) (by decide +kernel), List.mem_of_getElem? (i := 682) (by decide +kernel), List.mem_of_getElem? (i := 683) (by decide +kernel)⟩
theorem lw_p20 : lw_okq (⟨"OverInDinghy$Search", "tryRow", "(II)V"⟩, 7) := ⟨⟨by decide +kernel, by decide +kernel⟩, List.mem_of_getElem? (i := 205) (by decide +kernel), List.mem_of_getElem? (i := 690) (by decide +kernel), List.mem_of_getElem? (i := 691) (by decide +kernel)⟩
theorem lw_p21 : lw_okq (⟨"OverInDinghy$Search", "bringBack", "(II)V"⟩, 7) := ⟨⟨by decide +kernel, by decide +kernel⟩, List.mem_of_getElem? (i := 205) (by decide +kernel), List.mem_of_getElem? (i := 694) (by decide +kernel), List.mem_of_getElem? (i := 695) (by decide +kernel)⟩
theorem lw_p22 : lw_okq (⟨"OverInDinghy$Search", "isUpBehind", "(II)Z"⟩, 7) := ⟨⟨by decide +kernel, by decide +kernel⟩, List.mem_of_getElem? (i := 205) (by decide +kernel), List.mem_of_getElem? (i := 701) (by decide +kernel), List.mem_of_getElem? (i := 702) (by decide +kernel)⟩
theorem lw_p23 : lw_okq (⟨"OverInDinghy$Search", "send", "(III)V"⟩, 7) := ⟨⟨by decide +kernel, by decide +kernel⟩, List.mem_of_getElem? (i := 205) (by decide +kernel), List.mem_of_getElem? (i := 705) (by decide +kernel), List.mem_of_getElem? (i := 706) (by decide +kernel)⟩
theorem lw_p24 : lw_okq (⟨"OverInDinghy$Rescue", "insert", "(I)V"⟩, 3) := ⟨⟨by decide +kernel, by decide +kernel⟩, List.mem_of_getElem? (i := 238) (by decide +kernel), List.mem_of_getElem? (i := 751) (by decide +kernel), List.mem_of_getElem? (i := 752) (by decide +kernel)⟩
theorem lw_p25 : lw_okq (⟨"OverInDinghy$Rescue", "sortPair", "(I)V"⟩, 3) := ⟨⟨by decide +kernel, by decide +kernel⟩, List.mem_of_getElem? (i := 238) (by decide +kernel), List.mem_of_getElem? (i := 755) (by decide +kernel), List.mem_of_getElem? (i := 756) (by decide +kernel)⟩
theorem lw_p26 : lw_okq (⟨"OverInDinghy", "imageOf", "(I)LOverInDinghy$Club;"⟩, 12) := ⟨⟨by decide +kernel, by decide +kernel⟩, List.mem_of_getElem? (i := 20) (by decide +kernel), List.mem_of_getElem? (i := 802) (by decide +kernel), List.mem_of_getElem? (i := 803) (by decide +kernel)⟩
theorem lw_p27 : lw_okq (⟨"OverInDinghy$Asks", "leave", "(I)V"⟩, 2) := ⟨⟨by decide +kernel, by decide +kernel⟩, List.mem_of_getElem? (i := 255) (by decide +kernel), List.mem_of_getElem? (i := 849) (by decide +kernel), List.mem_of_getElem? (i := 850) (by decide +kernel)⟩
theorem lw_p28 : lw_okq (⟨"OverInDinghyModel", "finding", "(I)J"⟩, 32) := ⟨⟨by decide +kernel, by decide +kernel⟩, List.mem_of_getElem? (i := 884) (by decide +kernel), List.mem_of_getElem? (i := 1001) (by decide +kernel), List.mem_of_getElem? (i := 1002) (by decide +kernel)⟩
theorem lw_p29 : lw_okq (⟨"OverInDinghyModel", "next", "()V"⟩, 32) := ⟨⟨by decide +kernel, by decide +kernel⟩, List.mem_of_getElem? (i := 884) (by decide +kernel), List.mem_of_getElem? (i := 1029) (by decide +kernel), List.mem_of_getElem? (i := 1030) (by decide +kernel)⟩
theorem lw_p30 : lw_okq (⟨"OverInDinghyModel", "byteAt", "(I)I"⟩, 32) := ⟨⟨by decide +kernel, by decide +kernel⟩, List.mem_of_getElem? (i := 884) (by decide +kernel), List.mem_of_getElem? (i := 1033) (by decide +kernel), List.mem_of_getElem? (i := 1034) (by decide +kernel)⟩
theorem lw_p31 : lw_okq (⟨"OverInDinghyModel", "readSea", "()V"⟩, 32) := ⟨⟨by decide +kernel, by decide +kernel⟩, List.mem_of_getElem? (i := 884) (by decide +kernel), List.mem_of_getElem? (i := 1044) (by decide +kernel), List.mem_of_getElem? (i := 1045) (by decide +kernel)⟩
def lw_privs_2 : List (MethodName × Nat) := [(⟨"OverInDinghy$Club", "rideOrBail", "(ILOverInDinghy$Draws;)V"⟩, 19), (⟨"OverInDinghy$Club", "chill", "(I)V"⟩, 19), (⟨"OverInDinghy$Search", "nextAble", "(II)I"⟩, 7), (⟨"OverInDinghy$Search", "keep", "(II)V"⟩, 7), (⟨"OverInDinghy$Search", "tryRow", "(II)V"⟩, 7), (⟨"OverInDinghy$Search", "bringBack", "(II)V"⟩, 7), (⟨"OverInDinghy$Search", "isUpBehind", "(II)Z"⟩, 7), (⟨"OverInDinghy$Search", "send", "(III)V"⟩, 7), (⟨"OverInDinghy$Rescue", "insert", "(I)V"⟩, 3), (⟨"OverInDinghy$Rescue", "sortPair", "(I)V"⟩, 3), (⟨"OverInDinghy", "imageOf", "(I)LOverInDinghy$Club;"⟩, 12), (⟨"OverInDinghy$Asks", "leave", "(I)V"⟩, 2), (⟨"OverInDinghyModel", "finding", "(I)J"⟩, 32), (⟨"OverInDinghyModel", "next", "()V"⟩, 32), (⟨"OverInDinghyModel", "byteAt", "(I)I"⟩, 32), (⟨"OverInDinghyModel", "readSea", "()V"⟩, 32)]
theorem lw_r2 : ∀ q ∈ lw_privs_2, lw_okq q := List.forall_mem_cons.mpr ⟨lw_p16, List.forall_mem_cons.mpr ⟨lw_p17, List.forall_mem_cons.mpr ⟨lw_p18, List.forall_mem_cons.mpr ⟨lw_p19, List.forall_mem_cons.mpr ⟨lw_p20, List.forall_mem_cons.mpr ⟨lw_p21, List.forall_mem_cons.mpr ⟨lw_p22, List.forall_mem_cons.mpr ⟨lw_p23, List.forall_mem_cons.mpr ⟨lw_p24, List.forall_mem_cons.mpr ⟨lw_p25, List.forall_mem_cons.mpr ⟨lw_p26, List.forall_mem_cons.mpr ⟨lw_p27, List.forall_mem_cons.mpr ⟨lw_p28, List.forall_mem_cons.mpr ⟨lw_p29, List.forall_mem_cons.mpr ⟨lw_p30, List.forall_mem_cons.mpr ⟨lw_p31, fun _ h => absurd h List.not_mem_nil⟩⟩⟩⟩⟩⟩⟩⟩⟩⟩⟩⟩⟩⟩⟩⟩
theorem lw_p32 : lw_okq (⟨"OverInDinghyModel", "word", "()J"⟩, 32) := ⟨⟨by decide +kernel, by decide +kernel⟩, List.mem_of_getElem? (i := 884) (by decide +kernel), List.mem_of_getElem? (i := 1048) (by decide +kernel), List.mem_of_getElem? (i := 1049) (by decide +kernel)⟩
theorem lw_p33 : lw_okq (⟨"OverInDinghyModel", "must", "(Z)V"⟩, 32) := ⟨⟨by decide +kernel, by decide +kernel⟩, List.mem_of_getElem? (i := 884) (by decide +kernel), List.mem_of_getElem? (i := 1053) (by decide +kernel), List.mem_of_getElem? (i := 1054) (by decide +kernel)⟩
theorem lw_p34 : lw_okq (⟨"OverInDinghyModel", "bad", "(I)V"⟩, 32) := ⟨⟨by decide +kernel, by decide +kernel⟩, List.mem_of_getElem? (i := 884) (by decide +kernel), List.mem_of_getElem? (i := 1057) (by decide +kernel), List.mem_of_getElem? (i := 1058) (by decide +kernel)⟩
theorem lw_p35 : lw_okq (⟨"OverInDinghyModel", "number", "(II)I"⟩, 32) := ⟨⟨by decide +kernel, by decide +kernel⟩, List.mem_of_getElem? (i := 884) (by decide +kernel), List.mem_of_getElem? (i := 1061) (by decide +kernel), List.mem_of_getElem? (i := 1062) (by decide +kernel)⟩
theorem lw_p36 : lw_okq (⟨"OverInDinghyModel", "figures", "()I"⟩, 32) := ⟨⟨by decide +kernel, by decide +kernel⟩, List.mem_of_getElem? (i := 884) (by decide +kernel), List.mem_of_getElem? (i := 1065) (by decide +kernel), List.mem_of_getElem? (i := 1066) (by decide +kernel)⟩
theorem lw_p37 : lw_okq (⟨"OverInDinghyModel", "mustEnd", "()V"⟩, 32) := ⟨⟨by decide +kernel, by decide +kernel⟩, List.mem_of_getElem? (i := 884) (by decide +kernel), List.mem_of_getElem? (i := 1070) (by decide +kernel), List.mem_of_getElem? (i := 1071) (by decide +kernel)⟩
theorem lw_p38 : lw_okq (⟨"OverInDinghyModel", "readBoat", "()V"⟩, 32) := ⟨⟨by decide +kernel, by decide +kernel⟩, List.mem_of_getElem? (i := 884) (by decide +kernel), List.mem_of_getElem? (i := 1075) (by decide +kernel), List.mem_of_getElem? (i := 1076) (by decide +kernel)⟩
theorem lw_p39 : lw_okq (⟨"OverInDinghyModel", "begins", "(II)V"⟩, 32) := ⟨⟨by decide +kernel, by decide +kernel⟩, List.mem_of_getElem? (i := 884) (by decide +kernel), List.mem_of_getElem? (i := 1079) (by decide +kernel), List.mem_of_getElem? (i := 1080) (by decide +kernel)⟩
theorem lw_p40 : lw_okq (⟨"OverInDinghyModel", "readHand", "()V"⟩, 32) := ⟨⟨by decide +kernel, by decide +kernel⟩, List.mem_of_getElem? (i := 884) (by decide +kernel), List.mem_of_getElem? (i := 1084) (by decide +kernel), List.mem_of_getElem? (i := 1085) (by decide +kernel)⟩
theorem lw_p41 : lw_okq (⟨"OverInDinghyModel", "handsTold", "(I)I"⟩, 32) := ⟨⟨by decide +kernel, by decide +kernel⟩, List.mem_of_getElem? (i := 884) (by decide +kernel), List.mem_of_getElem? (i := 1088) (by decide +kernel), List.mem_of_getElem? (i := 1089) (by decide +kernel)⟩
theorem lw_p42 : lw_okq (⟨"OverInDinghyModel", "isHand", "(I)Z"⟩, 32) := ⟨⟨by decide +kernel, by decide +kernel⟩, List.mem_of_getElem? (i := 884) (by decide +kernel), List.mem_of_getElem? (i := 1101) (by decide +kernel), List.mem_of_getElem? (i := 1102) (by decide +kernel)⟩
theorem lw_p43 : lw_okq (⟨"OverInDinghyModel", "handOf", "(II)I"⟩, 32) := ⟨⟨by decide +kernel, by decide +kernel⟩, List.mem_of_getElem? (i := 884) (by decide +kernel), List.mem_of_getElem? (i := 1109) (by decide +kernel), List.mem_of_getElem? (i := 1110) (by decide +kernel)⟩
theorem lw_p44 : lw_okq (⟨"OverInDinghyModel", "isUpright", "(I)Z"⟩, 32) := ⟨⟨by decide +kernel, by decide +kernel⟩, List.mem_of_getElem? (i := 884) (by decide +kernel), List.mem_of_getElem? (i := 1113) (by decide +kernel), List.mem_of_getElem? (i := 1114) (by decide +kernel)⟩
theorem lw_p45 : lw_okq (⟨"OverInDinghyModel", "isBoat", "(I)Z"⟩, 32) := ⟨⟨by decide +kernel, by decide +kernel⟩, List.mem_of_getElem? (i := 884) (by decide +kernel), List.mem_of_getElem? (i := 1122) (by decide +kernel), List.mem_of_getElem? (i := 1123) (by decide +kernel)⟩
theorem lw_p46 : lw_okq (⟨"OverInDinghyModel", "tips", "([II)V"⟩, 32) := ⟨⟨by decide +kernel, by decide +kernel⟩, List.mem_of_getElem? (i := 884) (by decide +kernel), List.mem_of_getElem? (i := 1126) (by decide +kernel), List.mem_of_getElem? (i := 1127) (by decide +kernel)⟩
theorem lw_p47 : lw_okq (⟨"OverInDinghyModel", "moveAll", "([IIII)V"⟩, 32) := ⟨⟨by decide +kernel, by decide +kernel⟩, List.mem_of_getElem? (i := 884) (by decide +kernel), List.mem_of_getElem? (i := 1130) (by decide +kernel), List.mem_of_getElem? (i := 1131) (by decide +kernel)⟩
def lw_privs_3 : List (MethodName × Nat) := [(⟨"OverInDinghyModel", "word", "()J"⟩, 32), (⟨"OverInDinghyModel", "must", "(Z)V"⟩, 32), (⟨"OverInDinghyModel", "bad", "(I)V"⟩, 32), (⟨"OverInDinghyModel", "number", "(II)I"⟩, 32), (⟨"OverInDinghyModel", "figures", "()I"⟩, 32), (⟨"OverInDinghyModel", "mustEnd", "()V"⟩, 32), (⟨"OverInDinghyModel", "readBoat", "()V"⟩, 32), (⟨"OverInDinghyModel", "begins", "(II)V"⟩, 32), (⟨"OverInDinghyModel", "readHand", "()V"⟩, 32), (⟨"OverInDinghyModel", "handsTold", "(I)I"⟩, 32), (⟨"OverInDinghyModel", "isHand", "(I)Z"⟩, 32), (⟨"OverInDinghyModel", "handOf", "(II)I"⟩, 32), (⟨"OverInDinghyModel", "isUpright", "(I)Z"⟩, 32), (⟨"OverInDinghyModel", "isBoat", "(I)Z"⟩, 32), (⟨"OverInDinghyModel", "tips", "([II)V"⟩, 32), (⟨"OverInDinghyModel", "moveAll", "([IIII)V"⟩, 32)]
theorem lw_r3 : ∀ q ∈ lw_privs_3, lw_okq q := List.forall_mem_cons.mpr ⟨lw_p32, List.forall_mem_cons.mpr ⟨lw_p33, List.forall_mem_cons.mpr ⟨lw_p34, List.forall_mem_cons.mpr ⟨lw_p35, List.forall_mem_cons.mpr ⟨lw_p36, List.forall_mem_cons.mpr ⟨lw_p37, List.forall_mem_cons.mpr ⟨lw_p38, List.forall_mem_cons.mpr ⟨lw_p39, List.forall_mem_cons.mpr ⟨lw_p40, List.forall_mem_cons.mpr ⟨lw_p41, List.forall_mem_cons.mpr ⟨lw_p42, List.forall_mem_cons.mpr ⟨lw_p43, List.forall_mem_cons.mpr ⟨lw_p44, List.forall_mem_cons.mpr ⟨lw_p45, List.forall_mem_cons.mpr ⟨lw_p46, List.forall_mem_cons.mpr ⟨lw_p47, fun _ h => absurd h List.not_mem_nil⟩⟩⟩⟩⟩⟩⟩⟩⟩⟩⟩⟩⟩⟩⟩⟩
theorem lw_p48 : lw_okq (⟨"OverInDinghyModel", "isOf", "(II)Z"⟩, 32) := ⟨⟨by decide +kernel, by decide +kernel⟩, List.mem_of_getElem? (i := 884) (by decide +kernel), List.mem_of_getElem? (i := 1134) (by decide +kernel), List.mem_of_getElem? (i := 1135) (by decide +kernel)⟩
theorem lw_p49 : lw_okq (⟨"OverInDinghyModel", "tick", "([IIZ)V"⟩, 32) := ⟨⟨by decide +kernel, by decide +kernel⟩, List.mem_of_getElem? (i := 884) (by decide +kernel), List.mem_of_getElem? (i := 1147) (by decide +kernel), List.mem_of_getElem? (i := 1148) (by decide +kernel)⟩
theorem lw_p50 : lw_okq (⟨"OverInDinghyModel", "goUpright", "([IIZ)V"⟩, 32) := ⟨⟨by decide +kernel, by decide +kernel⟩, List.mem_of_getElem? (i := 884) (by decide +kernel), List.mem_of_getElem? (i := 1151) (by decide +kernel), List.mem_of_getElem? (i := 1152) (by decide +kernel)⟩
theorem lw_p51 : lw_okq (⟨"OverInDinghyModel", "draw", "(I)I"⟩, 32) := ⟨⟨by decide +kernel, by decide +kernel⟩, List.mem_of_getElem? (i := 884) (by decide +kernel), List.mem_of_getElem? (i := 1155) (by decide +kernel), List.mem_of_getElem? (i := 1156) (by decide +kernel)⟩
theorem lw_p52 : lw_okq (⟨"OverInDinghyModel", "boatOf", "(II)I"⟩, 32) := ⟨⟨by decide +kernel, by decide +kernel⟩, List.mem_of_getElem? (i := 884) (by decide +kernel), List.mem_of_getElem? (i := 1161) (by decide +kernel), List.mem_of_getElem? (i := 1162) (by decide +kernel)⟩
theorem lw_p53 : lw_okq (⟨"OverInDinghyModel", "weightIn", "([II)I"⟩, 32) := ⟨⟨by decide +kernel, by decide +kernel⟩, List.mem_of_getElem? (i := 884) (by decide +kernel), List.mem_of_getElem? (i := 1165) (by decide +kernel), List.mem_of_getElem? (i := 1166) (by decide +kernel)⟩
theorem lw_p54 : lw_okq (⟨"OverInDinghyModel", "bailers", "([II)I"⟩, 32) := ⟨⟨by decide +kernel, by decide +kernel⟩, List.mem_of_getElem? (i := 884) (by decide +kernel), List.mem_of_getElem? (i := 1169) (by decide +kernel), List.mem_of_getElem? (i := 1170) (by decide +kernel)⟩
theorem lw_p55 : lw_okq (⟨"OverInDinghyModel", "goSided", "([IIZ)V"⟩, 32) := ⟨⟨by decide +kernel, by decide +kernel⟩, List.mem_of_getElem? (i := 884) (by decide +kernel), List.mem_of_getElem? (i := 1173) (by decide +kernel), List.mem_of_getElem? (i := 1174) (by decide +kernel)⟩
theorem lw_p56 : lw_okq (⟨"OverInDinghyModel", "needNow", "([II)I"⟩, 32) := ⟨⟨by decide +kernel, by decide +kernel⟩, List.mem_of_getElem? (i := 884) (by decide +kernel), List.mem_of_getElem? (i := 1177) (by decide +kernel), List.mem_of_getElem? (i := 1178) (by decide +kernel)⟩
theorem lw_p57 : lw_okq (⟨"OverInDinghyModel", "hasBow", "([II)Z"⟩, 32) := ⟨⟨by decide +kernel, by decide +kernel⟩, List.mem_of_getElem? (i := 884) (by decide +kernel), List.mem_of_getElem? (i := 1181) (by decide +kernel), List.mem_of_getElem? (i := 1182) (by decide +kernel)⟩
theorem lw_p58 : lw_okq (⟨"OverInDinghyModel", "need", "(IIZ)I"⟩, 32) := ⟨⟨by decide +kernel, by decide +kernel⟩, List.mem_of_getElem? (i := 884) (by decide +kernel), List.mem_of_getElem? (i := 1185) (by decide +kernel), List.mem_of_getElem? (i := 1186) (by decide +kernel)⟩
theorem lw_p59 : lw_okq (⟨"OverInDinghyModel", "lever", "([II)I"⟩, 32) := ⟨⟨by decide +kernel, by decide +kernel⟩, List.mem_of_getElem? (i := 884) (by decide +kernel), List.mem_of_getElem? (i := 1189) (by decide +kernel), List.mem_of_getElem? (i := 1190) (by decide +kernel)⟩
theorem lw_p60 : lw_okq (⟨"OverInDinghyModel", "goRound", "([II)V"⟩, 32) := ⟨⟨by decide +kernel, by decide +kernel⟩, List.mem_of_getElem? (i := 884) (by decide +kernel), List.mem_of_getElem? (i := 1193) (by decide +kernel), List.mem_of_getElem? (i := 1194) (by decide +kernel)⟩
theorem lw_p61 : lw_okq (⟨"OverInDinghyModel", "getsCold", "([II)V"⟩, 32) := ⟨⟨by decide +kernel, by decide +kernel⟩, List.mem_of_getElem? (i := 884) (by decide +kernel), List.mem_of_getElem? (i := 1197) (by decide +kernel), List.mem_of_getElem? (i := 1198) (by decide +kernel)⟩
theorem lw_p62 : lw_okq (⟨"OverInDinghyModel", "coldOf", "(I)I"⟩, 32) := ⟨⟨by decide +kernel, by decide +kernel⟩, List.mem_of_getElem? (i := 884) (by decide +kernel), List.mem_of_getElem? (i := 1201) (by decide +kernel), List.mem_of_getElem? (i := 1202) (by decide +kernel)⟩
theorem lw_p63 : lw_okq (⟨"OverInDinghyModel", "rightsBy", "(IIII)Z"⟩, 32) := ⟨⟨by decide +kernel, by decide +kernel⟩, List.mem_of_getElem? (i := 884) (by decide +kernel), List.mem_of_getElem? (i := 1218) (by decide +kernel), List.mem_of_getElem? (i := 1219) (by decide +kernel)⟩
def lw_privs_4 : List (MethodName × Nat) := [(⟨"OverInDinghyModel", "isOf", "(II)Z"⟩, 32), (⟨"OverInDinghyModel", "tick", "([IIZ)V"⟩, 32), (⟨"OverInDinghyModel", "goUpright", "([IIZ)V"⟩, 32), (⟨"OverInDinghyModel", "draw", "(I)I"⟩, 32), (⟨"OverInDinghyModel", "boatOf", "(II)I"⟩, 32), (⟨"OverInDinghyModel", "weightIn", "([II)I"⟩, 32), (⟨"OverInDinghyModel", "bailers", "([II)I"⟩, 32), (⟨"OverInDinghyModel", "goSided", "([IIZ)V"⟩, 32), (⟨"OverInDinghyModel", "needNow", "([II)I"⟩, 32), (⟨"OverInDinghyModel", "hasBow", "([II)Z"⟩, 32), (⟨"OverInDinghyModel", "need", "(IIZ)I"⟩, 32), (⟨"OverInDinghyModel", "lever", "([II)I"⟩, 32), (⟨"OverInDinghyModel", "goRound", "([II)V"⟩, 32), (⟨"OverInDinghyModel", "getsCold", "([II)V"⟩, 32), (⟨"OverInDinghyModel", "coldOf", "(I)I"⟩, 32), (⟨"OverInDinghyModel", "rightsBy", "(IIII)Z"⟩, 32)]
theorem lw_r4 : ∀ q ∈ lw_privs_4, lw_okq q := List.forall_mem_cons.mpr ⟨lw_p48, List.forall_mem_cons.mpr ⟨lw_p49, List.forall_mem_cons.mpr ⟨lw_p50, List.forall_mem_cons.mpr ⟨lw_p51, List.forall_mem_cons.mpr ⟨lw_p52, List.forall_mem_cons.mpr ⟨lw_p53, List.forall_mem_cons.mpr ⟨lw_p54, List.forall_mem_cons.mpr ⟨lw_p55, List.forall_mem_cons.mpr ⟨lw_p56, List.forall_mem_cons.mpr ⟨lw_p57, List.forall_mem_cons.mpr ⟨lw_p58, List.forall_mem_cons.mpr ⟨lw_p59, List.forall_mem_cons.mpr ⟨lw_p60, List.forall_mem_cons.mpr ⟨lw_p61, List.forall_mem_cons.mpr ⟨lw_p62, List.forall_mem_cons.mpr ⟨lw_p63, fun _ h => absurd h List.not_mem_nil⟩⟩⟩⟩⟩⟩⟩⟩⟩⟩⟩⟩⟩⟩⟩⟩
theorem lw_p64 : lw_okq (⟨"OverInDinghyModel", "layTwo", "(I)Z"⟩, 32) := ⟨⟨by decide +kernel, by decide +kernel⟩, List.mem_of_getElem? (i := 884) (by decide +kernel), List.mem_of_getElem? (i := 1235) (by decide +kernel), List.mem_of_getElem? (i := 1236) (by decide +kernel)⟩
theorem lw_p65 : lw_okq (⟨"OverInDinghyModel", "ticksBy", "(II)I"⟩, 32) := ⟨⟨by decide +kernel, by decide +kernel⟩, List.mem_of_getElem? (i := 884) (by decide +kernel), List.mem_of_getElem? (i := 1239) (by decide +kernel), List.mem_of_getElem? (i := 1240) (by decide +kernel)⟩
theorem lw_p66 : lw_okq (⟨"OverInDinghyModel", "goesTo", "(III)V"⟩, 32) := ⟨⟨by decide +kernel, by decide +kernel⟩, List.mem_of_getElem? (i := 884) (by decide +kernel), List.mem_of_getElem? (i := 1243) (by decide +kernel), List.mem_of_getElem? (i := 1244) (by decide +kernel)⟩
theorem lw_p67 : lw_okq (⟨"OverInDinghyModel", "harmBy", "(III)I"⟩, 32) := ⟨⟨by decide +kernel, by decide +kernel⟩, List.mem_of_getElem? (i := 884) (by decide +kernel), List.mem_of_getElem? (i := 1265) (by decide +kernel), List.mem_of_getElem? (i := 1266) (by decide +kernel)⟩
theorem lw_p68 : lw_okq (⟨"OverInDinghyModel", "nextOrder", "(I)Z"⟩, 32) := ⟨⟨by decide +kernel, by decide +kernel⟩, List.mem_of_getElem? (i := 884) (by decide +kernel), List.mem_of_getElem? (i := 1269) (by decide +kernel), List.mem_of_getElem? (i := 1270) (by decide +kernel)⟩
theorem lw_p69 : lw_okq (⟨"OverInDinghyModel", "swap", "(II)V"⟩, 32) := ⟨⟨by decide +kernel, by decide +kernel⟩, List.mem_of_getElem? (i := 884) (by decide +kernel), List.mem_of_getElem? (i := 1273) (by decide +kernel), List.mem_of_getElem? (i := 1274) (by decide +kernel)⟩
theorem lw_p70 : lw_okq (⟨"OverInDinghyModel", "kindOf", "(I)I"⟩, 32) := ⟨⟨by decide +kernel, by decide +kernel⟩, List.mem_of_getElem? (i := 884) (by decide +kernel), List.mem_of_getElem? (i := 1316) (by decide +kernel), List.mem_of_getElem? (i := 1317) (by decide +kernel)⟩
theorem lw_p71 : lw_okq (⟨"OverInDinghyModel", "lyingSize", "(II)I"⟩, 32) := ⟨⟨by decide +kernel, by decide +kernel⟩, List.mem_of_getElem? (i := 884) (by decide +kernel), List.mem_of_getElem? (i := 1332) (by decide +kernel), List.mem_of_getElem? (i := 1333) (by decide +kernel)⟩
theorem lw_p72 : lw_okq (⟨"OverInDinghyModel", "began", "(I)V"⟩, 32) := ⟨⟨by decide +kernel, by decide +kernel⟩, List.mem_of_getElem? (i := 884) (by decide +kernel), List.mem_of_getElem? (i := 1336) (by decide +kernel), List.mem_of_getElem? (i := 1337) (by decide +kernel)⟩
theorem lw_p73 : lw_okq (⟨"OverInDinghyModel", "plainSize", "(I)I"⟩, 32) := ⟨⟨by decide +kernel, by decide +kernel⟩, List.mem_of_getElem? (i := 884) (by decide +kernel), List.mem_of_getElem? (i := 1340) (by decide +kernel), List.mem_of_getElem? (i := 1341) (by decide +kernel)⟩
theorem lw_p74 : lw_okq (⟨"OverInDinghyModel", "lyingMark", "(II)I"⟩, 32) := ⟨⟨by decide +kernel, by decide +kernel⟩, List.mem_of_getElem? (i := 884) (by decide +kernel), List.mem_of_getElem? (i := 1344) (by decide +kernel), List.mem_of_getElem? (i := 1345) (by decide +kernel)⟩
theorem lw_p75 : lw_okq (⟨"OverInDinghyModel", "otherSize", "(II)I"⟩, 32) := ⟨⟨by decide +kernel, by decide +kernel⟩, List.mem_of_getElem? (i := 884) (by decide +kernel), List.mem_of_getElem? (i := 1348) (by decide +kernel), List.mem_of_getElem? (i := 1349) (by decide +kernel)⟩
theorem lw_p76 : lw_okq (⟨"OverInDinghyModel", "otherMark", "(II)I"⟩, 32) := ⟨⟨by decide +kernel, by decide +kernel⟩, List.mem_of_getElem? (i := 884) (by decide +kernel), List.mem_of_getElem? (i := 1352) (by decide +kernel), List.mem_of_getElem? (i := 1353) (by decide +kernel)⟩
def lw_privs_5 : List (MethodName × Nat) := [(⟨"OverInDinghyModel", "layTwo", "(I)Z"⟩, 32), (⟨"OverInDinghyModel", "ticksBy", "(II)I"⟩, 32), (⟨"OverInDinghyModel", "goesTo", "(III)V"⟩, 32), (⟨"OverInDinghyModel", "harmBy", "(III)I"⟩, 32), (⟨"OverInDinghyModel", "nextOrder", "(I)Z"⟩, 32), (⟨"OverInDinghyModel", "swap", "(II)V"⟩, 32), (⟨"OverInDinghyModel", "kindOf", "(I)I"⟩, 32), (⟨"OverInDinghyModel", "lyingSize", "(II)I"⟩, 32), (⟨"OverInDinghyModel", "began", "(I)V"⟩, 32), (⟨"OverInDinghyModel", "plainSize", "(I)I"⟩, 32), (⟨"OverInDinghyModel", "lyingMark", "(II)I"⟩, 32), (⟨"OverInDinghyModel", "otherSize", "(II)I"⟩, 32), (⟨"OverInDinghyModel", "otherMark", "(II)I"⟩, 32)]
theorem lw_r5 : ∀ q ∈ lw_privs_5, lw_okq q := List.forall_mem_cons.mpr ⟨lw_p64, List.forall_mem_cons.mpr ⟨lw_p65, List.forall_mem_cons.mpr ⟨lw_p66, List.forall_mem_cons.mpr ⟨lw_p67, List.forall_mem_cons.mpr ⟨lw_p68, List.forall_mem_cons.mpr ⟨lw_p69, List.forall_mem_cons.mpr ⟨lw_p70, List.forall_mem_cons.mpr ⟨lw_p71, List.forall_mem_cons.mpr ⟨lw_p72, List.forall_mem_cons.mpr ⟨lw_p73, List.forall_mem_cons.mpr ⟨lw_p74, List.forall_mem_cons.mpr ⟨lw_p75, List.forall_mem_cons.mpr ⟨lw_p76, fun _ h => absurd h List.not_mem_nil⟩⟩⟩⟩⟩⟩⟩⟩⟩⟩⟩⟩⟩
def lw_privs : List (MethodName × Nat) := lw_privs_1 ++ (lw_privs_2 ++ (lw_privs_3 ++ (lw_privs_4 ++ (lw_privs_5))))
def lw_tbl : List Cond := k2_sels lw_privs ++ tables_1
theorem lw_privs_ok : ∀ q ∈ lw_privs, lw_okq q := by
  show ∀ q ∈ lw_privs_1 ++ (lw_privs_2 ++ (lw_privs_3 ++ (lw_privs_4 ++ (lw_privs_5)))), lw_okq q
  exact List.forall_mem_append.mpr ⟨lw_r1, List.forall_mem_append.mpr ⟨lw_r2, List.forall_mem_append.mpr ⟨lw_r3, List.forall_mem_append.mpr ⟨lw_r4, lw_r5⟩⟩⟩⟩

def xg_tbl : List Cond := lw_tbl.filter goodWord
end
section
def xcn : List String := ["OverInDinghy", "OverInDinghy$Asks", "OverInDinghy$Club", "OverInDinghy$Draws", "OverInDinghy$Foretold", "OverInDinghy$Odds", "OverInDinghy$Reader", "OverInDinghy$Rescue", "OverInDinghy$Rows", "OverInDinghy$Search", "OverInDinghyModel", "OverInDinghyLaw", "java/lang/Math", "java/lang/String", "java/lang/StringLatin1", "java/util/Arrays", "jdk/internal/util/Preconditions", "java/lang/StringUTF16"]
def cn (o : Nat) : String := xcn.getD o ""
def xF0 : u_T := fun k => match k with
  | 0 => ("OverInDinghy$Asks", "begun", "[I", true)
  | _ => ("OverInDinghy$Asks", "length", "I", false)
def xT0 : Nat → FieldType := fun k => match k with
  | 0 => .array .int
  | _ => .int
def xF1 : u_T := fun k => match k with
  | 0 => ("OverInDinghy$Club", "warmth", "I", false)
  | 1 => ("OverInDinghy$Club", "wind", "I", false)
  | 2 => ("OverInDinghy$Club", "mud", "Z", false)
  | 3 => ("OverInDinghy$Club", "ticks", "I", false)
  | 4 => ("OverInDinghy$Club", "boats", "I", false)
  | 5 => ("OverInDinghy$Club", "hands", "I", false)
  | 6 => ("OverInDinghy$Club", "beam", "[I", true)
  | 7 => ("OverInDinghy$Club", "sail", "[I", true)
  | 8 => ("OverInDinghy$Club", "air", "[I", true)
  | 9 => ("OverInDinghy$Club", "floats", "[I", true)
  | 10 => ("OverInDinghy$Club", "how", "[I", true)
  | 11 => ("OverInDinghy$Club", "mast", "[I", true)
  | 12 => ("OverInDinghy$Club", "water", "[I", true)
  | 13 => ("OverInDinghy$Club", "sided", "[I", true)
  | 14 => ("OverInDinghy$Club", "boatOf", "[I", true)
  | 15 => ("OverInDinghy$Club", "weight", "[I", true)
  | 16 => ("OverInDinghy$Club", "lasts", "[I", true)
  | 17 => ("OverInDinghy$Club", "spot", "[I", true)
  | _ => ("OverInDinghy$Club", "grip", "[I", true)
def xT1 : Nat → FieldType := fun k => match k with
  | 0 => .int
  | 1 => .int
  | 2 => .boolean
  | 3 => .int
  | 4 => .int
  | 5 => .int
  | 6 => .array .int
  | 7 => .array .int
  | 8 => .array .int
  | 9 => .array .int
  | 10 => .array .int
  | 11 => .array .int
  | 12 => .array .int
  | 13 => .array .int
  | 14 => .array .int
  | 15 => .array .int
  | 16 => .array .int
  | 17 => .array .int
  | _ => .array .int
def xF2 : u_T := fun k => match k with
  | 0 => ("OverInDinghy$Draws", "still", "Z", false)
  | _ => ("OverInDinghy$Draws", "x", "J", false)
def xT2 : Nat → FieldType := fun k => match k with
  | 0 => .boolean
  | _ => .long
def xF3 : u_T := fun k => match k with
  | 0 => ("OverInDinghy$Reader", "tape", "[B", true)
  | 1 => ("OverInDinghy$Reader", "length", "I", false)
  | 2 => ("OverInDinghy$Reader", "next", "I", false)
  | 3 => ("OverInDinghy$Reader", "start", "I", false)
  | 4 => ("OverInDinghy$Reader", "token", "I", false)
  | 5 => ("OverInDinghy$Reader", "value", "I", false)
  | 6 => ("OverInDinghy$Reader", "taken", "I", false)
  | 7 => ("OverInDinghy$Reader", "wrong", "I", false)
  | _ => ("OverInDinghy$Reader", "wrongAt", "I", false)
def xT3 : Nat → FieldType := fun k => match k with
  | 0 => .array .byte
  | 1 => .int
  | 2 => .int
  | 3 => .int
  | 4 => .int
  | 5 => .int
  | 6 => .int
  | 7 => .int
  | _ => .int
def xF4 : u_T := fun k => match k with
  | 0 => ("OverInDinghy$Rescue", "order", "[I", true)
  | 1 => ("OverInDinghy$Rescue", "odds", "[I", true)
  | _ => ("OverInDinghy$Rescue", "boats", "I", false)
def xT4 : Nat → FieldType := fun k => match k with
  | 0 => .array .int
  | 1 => .array .int
  | _ => .int
def xF5 : u_T := fun k => match k with
  | 0 => ("OverInDinghy$Rows", "lane", "[I", true)
  | 1 => ("OverInDinghy$Rows", "size", "[I", true)
  | _ => ("OverInDinghy$Rows", "items", "[I", true)
def xT5 : Nat → FieldType := fun k => match k with
  | 0 => .array .int
  | 1 => .array .int
  | _ => .array .int
def xF6 : u_T := fun k => match k with
  | 0 => ("OverInDinghy$Search", "trial", "LOverInDinghy$Club;", true)
  | 1 => ("OverInDinghy$Search", "still", "LOverInDinghy$Draws;", true)
  | 2 => ("OverInDinghy$Search", "kept", "[I", true)
  | 3 => ("OverInDinghy$Search", "one", "I", false)
  | 4 => ("OverInDinghy$Search", "two", "I", false)
  | 5 => ("OverInDinghy$Search", "fewest", "I", false)
  | _ => ("OverInDinghy$Search", "places", "I", false)
def xT6 : Nat → FieldType := fun k => match k with
  | 0 => .object "OverInDinghy$Club"
  | 1 => .object "OverInDinghy$Draws"
  | 2 => .array .int
  | 3 => .int
  | 4 => .int
  | 5 => .int
  | _ => .int
def xF7 : u_T := fun k => match k with
  | 0 => ("OverInDinghy", "rows", "LOverInDinghy$Rows;", true)
  | 1 => ("OverInDinghy", "reader", "LOverInDinghy$Reader;", true)
  | 2 => ("OverInDinghy", "now", "LOverInDinghy$Club;", true)
  | 3 => ("OverInDinghy", "draft", "LOverInDinghy$Club;", true)
  | 4 => ("OverInDinghy", "imageA", "LOverInDinghy$Club;", true)
  | 5 => ("OverInDinghy", "imageB", "LOverInDinghy$Club;", true)
  | 6 => ("OverInDinghy", "draws", "LOverInDinghy$Draws;", true)
  | 7 => ("OverInDinghy", "search", "LOverInDinghy$Search;", true)
  | 8 => ("OverInDinghy", "rescue", "LOverInDinghy$Rescue;", true)
  | 9 => ("OverInDinghy", "asks", "LOverInDinghy$Asks;", true)
  | 10 => ("OverInDinghy", "lastFault", "I", false)
  | _ => ("OverInDinghy", "lastFinding", "I", false)
def xT7 : Nat → FieldType := fun k => match k with
  | 0 => .object "OverInDinghy$Rows"
  | 1 => .object "OverInDinghy$Reader"
  | 2 => .object "OverInDinghy$Club"
  | 3 => .object "OverInDinghy$Club"
  | 4 => .object "OverInDinghy$Club"
  | 5 => .object "OverInDinghy$Club"
  | 6 => .object "OverInDinghy$Draws"
  | 7 => .object "OverInDinghy$Search"
  | 8 => .object "OverInDinghy$Rescue"
  | 9 => .object "OverInDinghy$Asks"
  | 10 => .int
  | _ => .int
def xF8 : u_T := fun k => match k with
  | 0 => ("OverInDinghyModel", "thrown", "I", false)
  | 1 => ("OverInDinghyModel", "status", "I", false)
  | 2 => ("OverInDinghyModel", "lane", "[I", true)
  | 3 => ("OverInDinghyModel", "many", "[I", true)
  | 4 => ("OverInDinghyModel", "item", "[I", true)
  | 5 => ("OverInDinghyModel", "club", "[I", true)
  | 6 => ("OverInDinghyModel", "fresh", "[I", true)
  | 7 => ("OverInDinghyModel", "isThere", "Z", false)
  | 8 => ("OverInDinghyModel", "now", "[I", true)
  | 9 => ("OverInDinghyModel", "tape", "[I", true)
  | 10 => ("OverInDinghyModel", "taped", "I", false)
  | 11 => ("OverInDinghyModel", "latest", "I", false)
  | 12 => ("OverInDinghyModel", "length", "I", false)
  | 13 => ("OverInDinghyModel", "cursor", "I", false)
  | 14 => ("OverInDinghyModel", "token", "I", false)
  | 15 => ("OverInDinghyModel", "start", "I", false)
  | 16 => ("OverInDinghyModel", "till", "I", false)
  | 17 => ("OverInDinghyModel", "fault", "I", false)
  | 18 => ("OverInDinghyModel", "faultAt", "I", false)
  | 19 => ("OverInDinghyModel", "drawn", "J", false)
  | 20 => ("OverInDinghyModel", "tried", "[I", true)
  | 21 => ("OverInDinghyModel", "one", "I", false)
  | 22 => ("OverInDinghyModel", "other", "I", false)
  | 23 => ("OverInDinghyModel", "bestTicks", "I", false)
  | 24 => ("OverInDinghyModel", "bestFirst", "I", false)
  | 25 => ("OverInDinghyModel", "order", "[I", true)
  | 26 => ("OverInDinghyModel", "bestOrder", "[I", true)
  | 27 => ("OverInDinghyModel", "isKept", "[Z", true)
  | 28 => ("OverInDinghyModel", "keptClub", "[I", true)
  | 29 => ("OverInDinghyModel", "keptNow", "[I", true)
  | 30 => ("OverInDinghyModel", "trace", "[I", true)
  | _ => ("OverInDinghyModel", "traced", "I", false)
def xT8 : Nat → FieldType := fun k => match k with
  | 0 => .int
  | 1 => .int
  | 2 => .array .int
  | 3 => .array .int
  | 4 => .array .int
  | 5 => .array .int
  | 6 => .array .int
  | 7 => .boolean
  | 8 => .array .int
  | 9 => .array .int
  | 10 => .int
  | 11 => .int
  | 12 => .int
  | 13 => .int
  | 14 => .int
  | 15 => .int
  | 16 => .int
  | 17 => .int
  | 18 => .int
  | 19 => .long
  | 20 => .array .int
  | 21 => .int
  | 22 => .int
  | 23 => .int
  | 24 => .int
  | 25 => .array .int
  | 26 => .array .int
  | 27 => .array .boolean
  | 28 => .array .int
  | 29 => .array .int
  | 30 => .array .int
  | _ => .int
abbrev xcl : List vw_C := [("OverInDinghy$Asks", xF0, 2), ("OverInDinghy$Club", xF1, 19), ("OverInDinghy$Draws", xF2, 2), ("OverInDinghy$Reader", xF3, 9), ("OverInDinghy$Rescue", xF4, 3), ("OverInDinghy$Rows", xF5, 3), ("OverInDinghy$Search", xF6, 7), ("OverInDinghy", xF7, 12), ("OverInDinghyModel", xF8, 32)]
def xty (ci : Nat) : Nat → FieldType := match ci with
  | 0 => xT0
  | 1 => xT1
  | 2 => xT2
  | 3 => xT3
  | 4 => xT4
  | 5 => xT5
  | 6 => xT6
  | 7 => xT7
  | _ => xT8
def cokE (q : vw_C) (ty : Nat → FieldType) : Prop := (∀ w ∈ u_ws q.1 q.2.1 q.2.2, w ∈ xg_tbl) ∧ (∀ k, k < q.2.2 → parseFieldDescriptor (q.2.1 k).2.2.1 = some (ty k)) ∧ (∀ a, a < q.2.2 → ∀ b, b < q.2.2 → a ≠ b → (q.2.1 a).2.1 ≠ (q.2.1 b).2.1)
theorem xg_of {w : Cond} (h : w ∈ lw_tbl) (g : goodWord w = true) : w ∈ xg_tbl := List.mem_filter.mpr ⟨h, g⟩
theorem xg_good : ∀ w ∈ xg_tbl, goodWord w = true := fun w h => (List.mem_filter.mp h).2
theorem cok0 : cokE ("OverInDinghy$Asks", xF0, 2) xT0 := ⟨fun w h => xg_of ((by decide +kernel : ∀ w ∈ u_ws "OverInDinghy$Asks" xF0 2, w ∈ lw_tbl) w h) ((by decide +kernel : ∀ w ∈ u_ws "OverInDinghy$Asks" xF0 2, goodWord w = true) w h), by decide +kernel, by decide +kernel⟩
theorem cok1 : cokE ("OverInDinghy$Club", xF1, 19) xT1 := ⟨fun w h => xg_of ((by decide +kernel : ∀ w ∈ u_ws "OverInDinghy$Club" xF1 19, w ∈ lw_tbl) w h) ((by decide +kernel : ∀ w ∈ u_ws "OverInDinghy$Club" xF1 19, goodWord w = true) w h), by decide +kernel, by decide +kernel⟩
theorem cok2 : cokE ("OverInDinghy$Draws", xF2, 2) xT2 := ⟨fun w h => xg_of ((by decide +kernel : ∀ w ∈ u_ws "OverInDinghy$Draws" xF2 2, w ∈ lw_tbl) w h) ((by decide +kernel : ∀ w ∈ u_ws "OverInDinghy$Draws" xF2 2, goodWord w = true) w h), by decide +kernel, by decide +kernel⟩
theorem cok3 : cokE ("OverInDinghy$Reader", xF3, 9) xT3 := ⟨fun w h => xg_of ((by decide +kernel : ∀ w ∈ u_ws "OverInDinghy$Reader" xF3 9, w ∈ lw_tbl) w h) ((by decide +kernel : ∀ w ∈ u_ws "OverInDinghy$Reader" xF3 9, goodWord w = true) w h), by decide +kernel, by decide +kernel⟩
theorem cok4 : cokE ("OverInDinghy$Rescue", xF4, 3) xT4 := ⟨fun w h => xg_of ((by decide +kernel : ∀ w ∈ u_ws "OverInDinghy$Rescue" xF4 3, w ∈ lw_tbl) w h) ((by decide +kernel : ∀ w ∈ u_ws "OverInDinghy$Rescue" xF4 3, goodWord w = true) w h), by decide +kernel, by decide +kernel⟩
theorem cok5 : cokE ("OverInDinghy$Rows", xF5, 3) xT5 := ⟨fun w h => xg_of ((by decide +kernel : ∀ w ∈ u_ws "OverInDinghy$Rows" xF5 3, w ∈ lw_tbl) w h) ((by decide +kernel : ∀ w ∈ u_ws "OverInDinghy$Rows" xF5 3, goodWord w = true) w h), by decide +kernel, by decide +kernel⟩
theorem cok6 : cokE ("OverInDinghy$Search", xF6, 7) xT6 := ⟨fun w h => xg_of ((by decide +kernel : ∀ w ∈ u_ws "OverInDinghy$Search" xF6 7, w ∈ lw_tbl) w h) ((by decide +kernel : ∀ w ∈ u_ws "OverInDinghy$Search" xF6 7, goodWord w = true) w h), by decide +kernel, by decide +kernel⟩
theorem cok7 : cokE ("OverInDinghy", xF7, 12) xT7 := ⟨fun w h => xg_of ((by decide +kernel : ∀ w ∈ u_ws "OverInDinghy" xF7 12, w ∈ lw_tbl) w h) ((by decide +kernel : ∀ w ∈ u_ws "OverInDinghy" xF7 12, goodWord w = true) w h), by decide +kernel, by decide +kernel⟩
theorem cok8 : cokE ("OverInDinghyModel", xF8, 32) xT8 := ⟨fun w h => xg_of ((by decide +kernel : ∀ w ∈ u_ws "OverInDinghyModel" xF8 32, w ∈ lw_tbl) w h) ((by decide +kernel : ∀ w ∈ u_ws "OverInDinghyModel" xF8 32, goodWord w = true) w h), by decide +kernel, by decide +kernel⟩
theorem xcl_ok : ∀ (ci : Nat) (q : vw_C), xcl[ci]? = some q → cokE q (xty ci) := by
  intro ci q h
  match ci, h with
  | 0, h => cases h; exact cok0
  | 1, h => cases h; exact cok1
  | 2, h => cases h; exact cok2
  | 3, h => cases h; exact cok3
  | 4, h => cases h; exact cok4
  | 5, h => cases h; exact cok5
  | 6, h => cases h; exact cok6
  | 7, h => cases h; exact cok7
  | 8, h => cases h; exact cok8
  | ci + 9, h => simp [xcl] at h
end
section
abbrev xME : Type := MethodName × ByteArray × Nat × Option FieldType × Nat × Nat × Nat × Nat
/-- name, bytes, locals, answer, own class, height, parameters, kind (0 static, 1 virtual, 2 none of ours) -/
def mokE (e : xME) : Prop := e.2.2.2.2.2.2.2 = 2 ∨ (Cond.code e.1 e.2.1 e.2.2.1 e.2.2.2.1 ∈ lw_tbl ∧ (Cond.initialized e.1.cls ∈ lw_tbl ∧ plainName e.1.cls = true ∧ cn e.2.2.2.2.1 = e.1.cls ∧ e.2.2.1 ≤ 40) ∧ (e.1.cls ≠ "java/lang/invoke/MethodHandle" ∧ e.1.cls ≠ "java/lang/invoke/VarHandle" ∧ (parseMethodDescriptor e.1.desc).map (fun d => d.parameters.length) = some e.2.2.2.2.2.2.1) ∧ ((e.2.2.2.2.2.2.2 = 0 ∧ Cond.static e.1 ∈ lw_tbl) ∨ (e.2.2.2.2.2.2.2 = 1 ∧ Cond.instanceMethod e.1 ∈ lw_tbl ∧ Cond.selects e.1.cls e.1 e.1 ∈ lw_tbl)))
def xe0 : xME := (⟨"OverInDinghy", "<init>", "()V"⟩, prog_1_method_1_code, 1, none, 0, 0, 0, 2)
theorem xm0 : mokE xe0 := Or.inl rfl
def xe1 : xME := (⟨"OverInDinghy$Rows", "<init>", "()V"⟩, prog_9_method_1_code, 1, none, 8, 1, 0, 2)
theorem xm1 : mokE xe1 := Or.inl rfl
def xe2 : xME := (⟨"java/util/Arrays", "fill", "([II)V"⟩, prog_18_method_103_code, 4, none, 15, 0, 2, 0)
set_option maxRecDepth 30000 in
theorem xm2 : mokE xe2 := Or.inr ⟨List.mem_of_getElem? (i := 112) rfl, ⟨List.mem_of_getElem? (i := 80) (by decide +kernel), by decide +kernel, by decide +kernel, by decide +kernel⟩, by decide +kernel, Or.inl ⟨rfl, List.mem_of_getElem? (i := 111) (by decide +kernel)⟩⟩
def xe3 : xME := (⟨"OverInDinghy$Reader", "<init>", "()V"⟩, prog_7_method_1_code, 1, none, 6, 0, 0, 2)
theorem xm3 : mokE xe3 := Or.inl rfl
def xe4 : xME := (⟨"OverInDinghy$Club", "<init>", "()V"⟩, prog_3_method_1_code, 1, none, 2, 0, 0, 2)
theorem xm4 : mokE xe4 := Or.inl rfl
def xe5 : xME := (⟨"OverInDinghy$Draws", "<init>", "()V"⟩, prog_4_method_1_code, 1, none, 3, 0, 0, 2)
theorem xm5 : mokE xe5 := Or.inl rfl
def xe6 : xME := (⟨"OverInDinghy$Search", "<init>", "()V"⟩, prog_10_method_1_code, 1, none, 9, 0, 0, 2)
theorem xm6 : mokE xe6 := Or.inl rfl
def xe7 : xME := (⟨"OverInDinghy$Rescue", "<init>", "()V"⟩, prog_8_method_1_code, 1, none, 7, 0, 0, 2)
theorem xm7 : mokE xe7 := Or.inl rfl
def xe8 : xME := (⟨"OverInDinghy$Asks", "<init>", "()V"⟩, prog_2_method_1_code, 1, none, 1, 0, 0, 2)
theorem xm8 : mokE xe8 := Or.inl rfl
def xe9 : xME := (⟨"OverInDinghy", "row", "(III)J"⟩, prog_1_method_2_code, 4, (some .long), 0, 1, 3, 1)
set_option maxRecDepth 30000 in
theorem xm9 : mokE xe9 := Or.inr ⟨List.mem_of_getElem? (i := 386) rfl, ⟨List.mem_of_getElem? (i := 78) (by decide +kernel), by decide +kernel, by decide +kernel, by decide +kernel⟩, by decide +kernel, Or.inr ⟨rfl, List.mem_of_getElem? (i := 384) (by decide +kernel), List.mem_of_getElem? (i := 385) (by decide +kernel)⟩⟩
def xe10 : xME := (⟨"OverInDinghy$Rows", "isRow", "(I)Z"⟩, prog_9_method_2_code, 1, (some .boolean), 8, 0, 1, 0)
set_option maxRecDepth 30000 in
theorem xm10 : mokE xe10 := Or.inr ⟨List.mem_of_getElem? (i := 389) rfl, ⟨List.mem_of_getElem? (i := 79) (by decide +kernel), by decide +kernel, by decide +kernel, by decide +kernel⟩, by decide +kernel, Or.inl ⟨rfl, List.mem_of_getElem? (i := 388) (by decide +kernel)⟩⟩
def xe11 : xME := (⟨"OverInDinghy", "found", "(I)J"⟩, prog_1_method_32_code, 2, (some .long), 0, 0, 1, 1)
set_option maxRecDepth 30000 in
theorem xm11 : mokE xe11 := Or.inr ⟨List.mem_of_getElem? (i := 394) rfl, ⟨List.mem_of_getElem? (i := 78) (by decide +kernel), by decide +kernel, by decide +kernel, by decide +kernel⟩, by decide +kernel, Or.inr ⟨rfl, List.mem_of_getElem? (i := 393) (by decide +kernel), List.mem_of_getElem? (i := 0) (by decide +kernel)⟩⟩
def xe12 : xME := (⟨"OverInDinghy$Rows", "make", "(III)V"⟩, prog_9_method_4_code, 5, none, 8, 0, 3, 1)
set_option maxRecDepth 30000 in
theorem xm12 : mokE xe12 := Or.inr ⟨List.mem_of_getElem? (i := 399) rfl, ⟨List.mem_of_getElem? (i := 79) (by decide +kernel), by decide +kernel, by decide +kernel, by decide +kernel⟩, by decide +kernel, Or.inr ⟨rfl, List.mem_of_getElem? (i := 397) (by decide +kernel), List.mem_of_getElem? (i := 398) (by decide +kernel)⟩⟩
def xe13 : xME := (⟨"OverInDinghy", "fine", "(J)J"⟩, prog_1_method_33_code, 3, (some .long), 0, 0, 1, 1)
set_option maxRecDepth 30000 in
theorem xm13 : mokE xe13 := Or.inr ⟨List.mem_of_getElem? (i := 403) rfl, ⟨List.mem_of_getElem? (i := 78) (by decide +kernel), by decide +kernel, by decide +kernel, by decide +kernel⟩, by decide +kernel, Or.inr ⟨rfl, List.mem_of_getElem? (i := 402) (by decide +kernel), List.mem_of_getElem? (i := 1) (by decide +kernel)⟩⟩
def xe14 : xME := (⟨"OverInDinghy", "set", "(III)J"⟩, prog_1_method_3_code, 4, (some .long), 0, 1, 3, 1)
set_option maxRecDepth 30000 in
theorem xm14 : mokE xe14 := Or.inr ⟨List.mem_of_getElem? (i := 407) rfl, ⟨List.mem_of_getElem? (i := 78) (by decide +kernel), by decide +kernel, by decide +kernel, by decide +kernel⟩, by decide +kernel, Or.inr ⟨rfl, List.mem_of_getElem? (i := 405) (by decide +kernel), List.mem_of_getElem? (i := 406) (by decide +kernel)⟩⟩
def xe15 : xME := (⟨"OverInDinghy$Rows", "isMissing", "(I)Z"⟩, prog_9_method_3_code, 2, (some .boolean), 8, 0, 1, 1)
set_option maxRecDepth 30000 in
theorem xm15 : mokE xe15 := Or.inr ⟨List.mem_of_getElem? (i := 411) rfl, ⟨List.mem_of_getElem? (i := 79) (by decide +kernel), by decide +kernel, by decide +kernel, by decide +kernel⟩, by decide +kernel, Or.inr ⟨rfl, List.mem_of_getElem? (i := 409) (by decide +kernel), List.mem_of_getElem? (i := 410) (by decide +kernel)⟩⟩
def xe16 : xME := (⟨"OverInDinghy$Rows", "put", "(III)I"⟩, prog_9_method_5_code, 5, (some .int), 8, 0, 3, 1)
set_option maxRecDepth 30000 in
theorem xm16 : mokE xe16 := Or.inr ⟨List.mem_of_getElem? (i := 415) rfl, ⟨List.mem_of_getElem? (i := 79) (by decide +kernel), by decide +kernel, by decide +kernel, by decide +kernel⟩, by decide +kernel, Or.inr ⟨rfl, List.mem_of_getElem? (i := 413) (by decide +kernel), List.mem_of_getElem? (i := 414) (by decide +kernel)⟩⟩
def xe17 : xME := (⟨"OverInDinghy", "copy", "(IIIII)J"⟩, prog_1_method_4_code, 6, (some .long), 0, 1, 5, 1)
set_option maxRecDepth 30000 in
theorem xm17 : mokE xe17 := Or.inr ⟨List.mem_of_getElem? (i := 419) rfl, ⟨List.mem_of_getElem? (i := 78) (by decide +kernel), by decide +kernel, by decide +kernel, by decide +kernel⟩, by decide +kernel, Or.inr ⟨rfl, List.mem_of_getElem? (i := 417) (by decide +kernel), List.mem_of_getElem? (i := 418) (by decide +kernel)⟩⟩
def xe18 : xME := (⟨"OverInDinghy$Rows", "holds", "(III)Z"⟩, prog_9_method_7_code, 4, (some .boolean), 8, 0, 3, 1)
set_option maxRecDepth 30000 in
theorem xm18 : mokE xe18 := Or.inr ⟨List.mem_of_getElem? (i := 423) rfl, ⟨List.mem_of_getElem? (i := 79) (by decide +kernel), by decide +kernel, by decide +kernel, by decide +kernel⟩, by decide +kernel, Or.inr ⟨rfl, List.mem_of_getElem? (i := 421) (by decide +kernel), List.mem_of_getElem? (i := 422) (by decide +kernel)⟩⟩
def xe19 : xME := (⟨"OverInDinghy$Rows", "move", "(IIIII)V"⟩, prog_9_method_8_code, 6, none, 8, 0, 5, 1)
set_option maxRecDepth 30000 in
theorem xm19 : mokE xe19 := Or.inr ⟨List.mem_of_getElem? (i := 427) rfl, ⟨List.mem_of_getElem? (i := 79) (by decide +kernel), by decide +kernel, by decide +kernel, by decide +kernel⟩, by decide +kernel, Or.inr ⟨rfl, List.mem_of_getElem? (i := 425) (by decide +kernel), List.mem_of_getElem? (i := 426) (by decide +kernel)⟩⟩
def xmt0 : List xME := [xe0, xe1, xe2, xe3, xe4, xe5, xe6, xe7, xe8, xe9, xe10, xe11, xe12, xe13, xe14, xe15, xe16, xe17, xe18, xe19]
theorem xmt0_ok : ∀ e ∈ xmt0, mokE e := List.forall_mem_cons.mpr ⟨xm0, List.forall_mem_cons.mpr ⟨xm1, List.forall_mem_cons.mpr ⟨xm2, List.forall_mem_cons.mpr ⟨xm3, List.forall_mem_cons.mpr ⟨xm4, List.forall_mem_cons.mpr ⟨xm5, List.forall_mem_cons.mpr ⟨xm6, List.forall_mem_cons.mpr ⟨xm7, List.forall_mem_cons.mpr ⟨xm8, List.forall_mem_cons.mpr ⟨xm9, List.forall_mem_cons.mpr ⟨xm10, List.forall_mem_cons.mpr ⟨xm11, List.forall_mem_cons.mpr ⟨xm12, List.forall_mem_cons.mpr ⟨xm13, List.forall_mem_cons.mpr ⟨xm14, List.forall_mem_cons.mpr ⟨xm15, List.forall_mem_cons.mpr ⟨xm16, List.forall_mem_cons.mpr ⟨xm17, List.forall_mem_cons.mpr ⟨xm18, List.forall_mem_cons.mpr ⟨xm19, fun _ h => absurd h List.not_mem_nil⟩⟩⟩⟩⟩⟩⟩⟩⟩⟩⟩⟩⟩⟩⟩⟩⟩⟩⟩⟩
def xe20 : xME := (⟨"OverInDinghy", "drop", "(I)J"⟩, prog_1_method_5_code, 3, (some .long), 0, 1, 1, 1)
set_option maxRecDepth 30000 in
theorem xm20 : mokE xe20 := Or.inr ⟨List.mem_of_getElem? (i := 434) rfl, ⟨List.mem_of_getElem? (i := 78) (by decide +kernel), by decide +kernel, by decide +kernel, by decide +kernel⟩, by decide +kernel, Or.inr ⟨rfl, List.mem_of_getElem? (i := 432) (by decide +kernel), List.mem_of_getElem? (i := 433) (by decide +kernel)⟩⟩
def xe21 : xME := (⟨"OverInDinghy", "feed", "(JI)J"⟩, prog_1_method_6_code, 4, (some .long), 0, 1, 2, 1)
set_option maxRecDepth 30000 in
theorem xm21 : mokE xe21 := Or.inr ⟨List.mem_of_getElem? (i := 438) rfl, ⟨List.mem_of_getElem? (i := 78) (by decide +kernel), by decide +kernel, by decide +kernel, by decide +kernel⟩, by decide +kernel, Or.inr ⟨rfl, List.mem_of_getElem? (i := 436) (by decide +kernel), List.mem_of_getElem? (i := 437) (by decide +kernel)⟩⟩
def xe22 : xME := (⟨"OverInDinghy$Reader", "hasRoom", "(I)Z"⟩, prog_7_method_2_code, 2, (some .boolean), 6, 0, 1, 1)
set_option maxRecDepth 30000 in
theorem xm22 : mokE xe22 := Or.inr ⟨List.mem_of_getElem? (i := 442) rfl, ⟨List.mem_of_getElem? (i := 81) (by decide +kernel), by decide +kernel, by decide +kernel, by decide +kernel⟩, by decide +kernel, Or.inr ⟨rfl, List.mem_of_getElem? (i := 440) (by decide +kernel), List.mem_of_getElem? (i := 441) (by decide +kernel)⟩⟩
def xe23 : xME := (⟨"OverInDinghy$Reader", "append", "(JI)V"⟩, prog_7_method_3_code, 5, none, 6, 0, 2, 1)
set_option maxRecDepth 30000 in
theorem xm23 : mokE xe23 := Or.inr ⟨List.mem_of_getElem? (i := 447) rfl, ⟨List.mem_of_getElem? (i := 81) (by decide +kernel), by decide +kernel, by decide +kernel, by decide +kernel⟩, by decide +kernel, Or.inr ⟨rfl, List.mem_of_getElem? (i := 445) (by decide +kernel), List.mem_of_getElem? (i := 446) (by decide +kernel)⟩⟩
def xe24 : xME := (⟨"OverInDinghy", "club", "()J"⟩, prog_1_method_7_code, 2, (some .long), 0, 8, 0, 1)
set_option maxRecDepth 30000 in
theorem xm24 : mokE xe24 := Or.inr ⟨List.mem_of_getElem? (i := 451) rfl, ⟨List.mem_of_getElem? (i := 78) (by decide +kernel), by decide +kernel, by decide +kernel, by decide +kernel⟩, by decide +kernel, Or.inr ⟨rfl, List.mem_of_getElem? (i := 449) (by decide +kernel), List.mem_of_getElem? (i := 450) (by decide +kernel)⟩⟩
def xe25 : xME := (⟨"OverInDinghy$Reader", "read", "(LOverInDinghy$Club;)Z"⟩, prog_7_method_4_code, 3, (some .boolean), 6, 7, 1, 1)
set_option maxRecDepth 30000 in
theorem xm25 : mokE xe25 := Or.inr ⟨List.mem_of_getElem? (i := 455) rfl, ⟨List.mem_of_getElem? (i := 81) (by decide +kernel), by decide +kernel, by decide +kernel, by decide +kernel⟩, by decide +kernel, Or.inr ⟨rfl, List.mem_of_getElem? (i := 453) (by decide +kernel), List.mem_of_getElem? (i := 454) (by decide +kernel)⟩⟩
def xe26 : xME := (⟨"OverInDinghy$Club", "empty", "()V"⟩, prog_3_method_2_code, 1, none, 2, 1, 0, 1)
set_option maxRecDepth 30000 in
theorem xm26 : mokE xe26 := Or.inr ⟨List.mem_of_getElem? (i := 459) rfl, ⟨List.mem_of_getElem? (i := 82) (by decide +kernel), by decide +kernel, by decide +kernel, by decide +kernel⟩, by decide +kernel, Or.inr ⟨rfl, List.mem_of_getElem? (i := 457) (by decide +kernel), List.mem_of_getElem? (i := 458) (by decide +kernel)⟩⟩
def xe27 : xME := (⟨"OverInDinghy$Reader", "step", "()V"⟩, prog_7_method_13_code, 1, none, 6, 2, 0, 1)
set_option maxRecDepth 30000 in
theorem xm27 : mokE xe27 := Or.inr ⟨List.mem_of_getElem? (i := 464) rfl, ⟨List.mem_of_getElem? (i := 81) (by decide +kernel), by decide +kernel, by decide +kernel, by decide +kernel⟩, by decide +kernel, Or.inr ⟨rfl, List.mem_of_getElem? (i := 463) (by decide +kernel), List.mem_of_getElem? (i := 2) (by decide +kernel)⟩⟩
def xe28 : xME := (⟨"OverInDinghy$Reader", "isLetter", "(B)Z"⟩, prog_7_method_16_code, 1, (some .boolean), 6, 0, 1, 0)
set_option maxRecDepth 30000 in
theorem xm28 : mokE xe28 := Or.inr ⟨List.mem_of_getElem? (i := 467) rfl, ⟨List.mem_of_getElem? (i := 81) (by decide +kernel), by decide +kernel, by decide +kernel, by decide +kernel⟩, by decide +kernel, Or.inl ⟨rfl, List.mem_of_getElem? (i := 466) (by decide +kernel)⟩⟩
def xe29 : xME := (⟨"OverInDinghy$Reader", "stepName", "()V"⟩, prog_7_method_14_code, 1, none, 6, 1, 0, 1)
set_option maxRecDepth 30000 in
theorem xm29 : mokE xe29 := Or.inr ⟨List.mem_of_getElem? (i := 471) rfl, ⟨List.mem_of_getElem? (i := 81) (by decide +kernel), by decide +kernel, by decide +kernel, by decide +kernel⟩, by decide +kernel, Or.inr ⟨rfl, List.mem_of_getElem? (i := 470) (by decide +kernel), List.mem_of_getElem? (i := 3) (by decide +kernel)⟩⟩
def xe30 : xME := (⟨"OverInDinghy$Reader", "isFigure", "(B)Z"⟩, prog_7_method_17_code, 1, (some .boolean), 6, 0, 1, 0)
set_option maxRecDepth 30000 in
theorem xm30 : mokE xe30 := Or.inr ⟨List.mem_of_getElem? (i := 474) rfl, ⟨List.mem_of_getElem? (i := 81) (by decide +kernel), by decide +kernel, by decide +kernel, by decide +kernel⟩, by decide +kernel, Or.inl ⟨rfl, List.mem_of_getElem? (i := 473) (by decide +kernel)⟩⟩
def xe31 : xME := (⟨"OverInDinghy$Reader", "stepNumber", "()V"⟩, prog_7_method_15_code, 1, none, 6, 1, 0, 1)
set_option maxRecDepth 30000 in
theorem xm31 : mokE xe31 := Or.inr ⟨List.mem_of_getElem? (i := 478) rfl, ⟨List.mem_of_getElem? (i := 81) (by decide +kernel), by decide +kernel, by decide +kernel, by decide +kernel⟩, by decide +kernel, Or.inr ⟨rfl, List.mem_of_getElem? (i := 477) (by decide +kernel), List.mem_of_getElem? (i := 4) (by decide +kernel)⟩⟩
def xe32 : xME := (⟨"OverInDinghy$Reader", "readSea", "(LOverInDinghy$Club;)Z"⟩, prog_7_method_5_code, 2, (some .boolean), 6, 6, 1, 1)
set_option maxRecDepth 30000 in
theorem xm32 : mokE xe32 := Or.inr ⟨List.mem_of_getElem? (i := 482) rfl, ⟨List.mem_of_getElem? (i := 81) (by decide +kernel), by decide +kernel, by decide +kernel, by decide +kernel⟩, by decide +kernel, Or.inr ⟨rfl, List.mem_of_getElem? (i := 481) (by decide +kernel), List.mem_of_getElem? (i := 5) (by decide +kernel)⟩⟩
def xe33 : xME := (⟨"OverInDinghy$Reader", "takeWord", "(Ljava/lang/String;Z)Z"⟩, prog_7_method_8_code, 3, (some .boolean), 6, 5, 2, 1)
set_option maxRecDepth 30000 in
theorem xm33 : mokE xe33 := Or.inr ⟨List.mem_of_getElem? (i := 487) rfl, ⟨List.mem_of_getElem? (i := 81) (by decide +kernel), by decide +kernel, by decide +kernel, by decide +kernel⟩, by decide +kernel, Or.inr ⟨rfl, List.mem_of_getElem? (i := 486) (by decide +kernel), List.mem_of_getElem? (i := 6) (by decide +kernel)⟩⟩
def xe34 : xME := (⟨"OverInDinghy$Reader", "isWord", "(Ljava/lang/String;)Z"⟩, prog_7_method_12_code, 3, (some .boolean), 6, 4, 1, 1)
set_option maxRecDepth 30000 in
theorem xm34 : mokE xe34 := Or.inr ⟨List.mem_of_getElem? (i := 491) rfl, ⟨List.mem_of_getElem? (i := 81) (by decide +kernel), by decide +kernel, by decide +kernel, by decide +kernel⟩, by decide +kernel, Or.inr ⟨rfl, List.mem_of_getElem? (i := 490) (by decide +kernel), List.mem_of_getElem? (i := 7) (by decide +kernel)⟩⟩
def xe35 : xME := (⟨"java/lang/String", "length", "()I"⟩, prog_14_method_54_code, 1, (some .int), 13, 1, 0, 1)
set_option maxRecDepth 30000 in
theorem xm35 : mokE xe35 := Or.inr ⟨List.mem_of_getElem? (i := 495) rfl, ⟨List.mem_of_getElem? (i := 89) (by decide +kernel), by decide +kernel, by decide +kernel, by decide +kernel⟩, by decide +kernel, Or.inr ⟨rfl, List.mem_of_getElem? (i := 493) (by decide +kernel), List.mem_of_getElem? (i := 494) (by decide +kernel)⟩⟩
def xe36 : xME := (⟨"java/lang/String", "coder", "()B"⟩, prog_14_method_152_code, 1, (some .byte), 13, 0, 0, 1)
set_option maxRecDepth 30000 in
theorem xm36 : mokE xe36 := Or.inr ⟨List.mem_of_getElem? (i := 499) rfl, ⟨List.mem_of_getElem? (i := 89) (by decide +kernel), by decide +kernel, by decide +kernel, by decide +kernel⟩, by decide +kernel, Or.inr ⟨rfl, List.mem_of_getElem? (i := 497) (by decide +kernel), List.mem_of_getElem? (i := 498) (by decide +kernel)⟩⟩
def xe37 : xME := (⟨"java/lang/String", "charAt", "(I)C"⟩, prog_14_method_56_code, 2, (some .char), 13, 3, 1, 1)
set_option maxRecDepth 30000 in
theorem xm37 : mokE xe37 := Or.inr ⟨List.mem_of_getElem? (i := 505) rfl, ⟨List.mem_of_getElem? (i := 89) (by decide +kernel), by decide +kernel, by decide +kernel, by decide +kernel⟩, by decide +kernel, Or.inr ⟨rfl, List.mem_of_getElem? (i := 503) (by decide +kernel), List.mem_of_getElem? (i := 504) (by decide +kernel)⟩⟩
def xe38 : xME := (⟨"java/lang/String", "isLatin1", "()Z"⟩, prog_14_method_154_code, 1, (some .boolean), 13, 0, 0, 1)
set_option maxRecDepth 30000 in
theorem xm38 : mokE xe38 := Or.inr ⟨List.mem_of_getElem? (i := 509) rfl, ⟨List.mem_of_getElem? (i := 89) (by decide +kernel), by decide +kernel, by decide +kernel, by decide +kernel⟩, by decide +kernel, Or.inr ⟨rfl, List.mem_of_getElem? (i := 507) (by decide +kernel), List.mem_of_getElem? (i := 508) (by decide +kernel)⟩⟩
def xe39 : xME := (⟨"java/lang/StringLatin1", "charAt", "([BI)C"⟩, prog_15_method_2_code, 2, (some .char), 14, 2, 2, 0)
set_option maxRecDepth 30000 in
theorem xm39 : mokE xe39 := Or.inr ⟨List.mem_of_getElem? (i := 512) rfl, ⟨List.mem_of_getElem? (i := 90) (by decide +kernel), by decide +kernel, by decide +kernel, by decide +kernel⟩, by decide +kernel, Or.inl ⟨rfl, List.mem_of_getElem? (i := 511) (by decide +kernel)⟩⟩
def xmt1 : List xME := [xe20, xe21, xe22, xe23, xe24, xe25, xe26, xe27, xe28, xe29, xe30, xe31, xe32, xe33, xe34, xe35, xe36, xe37, xe38, xe39]
theorem xmt1_ok : ∀ e ∈ xmt1, mokE e := List.forall_mem_cons.mpr ⟨xm20, List.forall_mem_cons.mpr ⟨xm21, List.forall_mem_cons.mpr ⟨xm22, List.forall_mem_cons.mpr ⟨xm23, List.forall_mem_cons.mpr ⟨xm24, List.forall_mem_cons.mpr ⟨xm25, List.forall_mem_cons.mpr ⟨xm26, List.forall_mem_cons.mpr ⟨xm27, List.forall_mem_cons.mpr ⟨xm28, List.forall_mem_cons.mpr ⟨xm29, List.forall_mem_cons.mpr ⟨xm30, List.forall_mem_cons.mpr ⟨xm31, List.forall_mem_cons.mpr ⟨xm32, List.forall_mem_cons.mpr ⟨xm33, List.forall_mem_cons.mpr ⟨xm34, List.forall_mem_cons.mpr ⟨xm35, List.forall_mem_cons.mpr ⟨xm36, List.forall_mem_cons.mpr ⟨xm37, List.forall_mem_cons.mpr ⟨xm38, List.forall_mem_cons.mpr ⟨xm39, fun _ h => absurd h List.not_mem_nil⟩⟩⟩⟩⟩⟩⟩⟩⟩⟩⟩⟩⟩⟩⟩⟩⟩⟩⟩⟩
def xe40 : xME := (⟨"java/lang/String", "checkIndex", "(II)V"⟩, prog_14_method_155_code, 2, none, 13, 1, 2, 0)
set_option maxRecDepth 30000 in
theorem xm40 : mokE xe40 := Or.inr ⟨List.mem_of_getElem? (i := 515) rfl, ⟨List.mem_of_getElem? (i := 89) (by decide +kernel), by decide +kernel, by decide +kernel, by decide +kernel⟩, by decide +kernel, Or.inl ⟨rfl, List.mem_of_getElem? (i := 514) (by decide +kernel)⟩⟩
def xe41 : xME := (⟨"jdk/internal/util/Preconditions", "checkIndex", "(IILjava/util/function/BiFunction;)I"⟩, prog_19_method_11_code, 3, (some .int), 16, 0, 3, 0)
set_option maxRecDepth 30000 in
theorem xm41 : mokE xe41 := Or.inr ⟨List.mem_of_getElem? (i := 520) rfl, ⟨List.mem_of_getElem? (i := 91) (by decide +kernel), by decide +kernel, by decide +kernel, by decide +kernel⟩, by decide +kernel, Or.inl ⟨rfl, List.mem_of_getElem? (i := 519) (by decide +kernel)⟩⟩
def xe42 : xME := (⟨"java/lang/StringUTF16", "charAt", "([BI)C"⟩, prog_16_method_83_code, 2, (some .char), 17, 0, 2, 2)
theorem xm42 : mokE xe42 := Or.inl rfl
def xe43 : xME := (⟨"java/lang/StringUTF16", "checkIndex", "(I[B)V"⟩, prog_16_method_91_code, 2, none, 17, 2, 2, 2)
theorem xm43 : mokE xe43 := Or.inl rfl
def xe44 : xME := (⟨"java/lang/StringUTF16", "length", "([B)I"⟩, prog_16_method_6_code, 1, (some .int), 17, 0, 1, 2)
theorem xm44 : mokE xe44 := Or.inl rfl
def xe45 : xME := (⟨"java/lang/StringUTF16", "getChar", "([BI)C"⟩, prog_16_method_5_code, 2, (some .char), 17, 0, 2, 2)
theorem xm45 : mokE xe45 := Or.inl rfl
def xe46 : xME := (⟨"OverInDinghy$Reader", "refuse", "(II)Z"⟩, prog_7_method_11_code, 3, (some .boolean), 6, 0, 2, 1)
set_option maxRecDepth 30000 in
theorem xm46 : mokE xe46 := Or.inr ⟨List.mem_of_getElem? (i := 543) rfl, ⟨List.mem_of_getElem? (i := 81) (by decide +kernel), by decide +kernel, by decide +kernel, by decide +kernel⟩, by decide +kernel, Or.inr ⟨rfl, List.mem_of_getElem? (i := 542) (by decide +kernel), List.mem_of_getElem? (i := 8) (by decide +kernel)⟩⟩
def xe47 : xME := (⟨"OverInDinghy$Reader", "takeNumber", "(II)Z"⟩, prog_7_method_9_code, 3, (some .boolean), 6, 3, 2, 1)
set_option maxRecDepth 30000 in
theorem xm47 : mokE xe47 := Or.inr ⟨List.mem_of_getElem? (i := 547) rfl, ⟨List.mem_of_getElem? (i := 81) (by decide +kernel), by decide +kernel, by decide +kernel, by decide +kernel⟩, by decide +kernel, Or.inr ⟨rfl, List.mem_of_getElem? (i := 546) (by decide +kernel), List.mem_of_getElem? (i := 9) (by decide +kernel)⟩⟩
def xe48 : xME := (⟨"OverInDinghy$Reader", "takeSign", "()Z"⟩, prog_7_method_10_code, 1, (some .boolean), 6, 3, 0, 1)
set_option maxRecDepth 30000 in
theorem xm48 : mokE xe48 := Or.inr ⟨List.mem_of_getElem? (i := 552) rfl, ⟨List.mem_of_getElem? (i := 81) (by decide +kernel), by decide +kernel, by decide +kernel, by decide +kernel⟩, by decide +kernel, Or.inr ⟨rfl, List.mem_of_getElem? (i := 551) (by decide +kernel), List.mem_of_getElem? (i := 10) (by decide +kernel)⟩⟩
def xe49 : xME := (⟨"OverInDinghy$Reader", "readBoat", "(LOverInDinghy$Club;)Z"⟩, prog_7_method_6_code, 3, (some .boolean), 6, 6, 1, 1)
set_option maxRecDepth 30000 in
theorem xm49 : mokE xe49 := Or.inr ⟨List.mem_of_getElem? (i := 557) rfl, ⟨List.mem_of_getElem? (i := 81) (by decide +kernel), by decide +kernel, by decide +kernel, by decide +kernel⟩, by decide +kernel, Or.inr ⟨rfl, List.mem_of_getElem? (i := 556) (by decide +kernel), List.mem_of_getElem? (i := 11) (by decide +kernel)⟩⟩
def xe50 : xME := (⟨"OverInDinghy$Reader", "readHand", "(LOverInDinghy$Club;)Z"⟩, prog_7_method_7_code, 5, (some .boolean), 6, 6, 1, 1)
set_option maxRecDepth 30000 in
theorem xm50 : mokE xe50 := Or.inr ⟨List.mem_of_getElem? (i := 561) rfl, ⟨List.mem_of_getElem? (i := 81) (by decide +kernel), by decide +kernel, by decide +kernel, by decide +kernel⟩, by decide +kernel, Or.inr ⟨rfl, List.mem_of_getElem? (i := 560) (by decide +kernel), List.mem_of_getElem? (i := 12) (by decide +kernel)⟩⟩
def xe51 : xME := (⟨"OverInDinghy$Club", "crewOf", "(I)I"⟩, prog_3_method_10_code, 4, (some .int), 2, 0, 1, 1)
set_option maxRecDepth 30000 in
theorem xm51 : mokE xe51 := Or.inr ⟨List.mem_of_getElem? (i := 566) rfl, ⟨List.mem_of_getElem? (i := 82) (by decide +kernel), by decide +kernel, by decide +kernel, by decide +kernel⟩, by decide +kernel, Or.inr ⟨rfl, List.mem_of_getElem? (i := 564) (by decide +kernel), List.mem_of_getElem? (i := 565) (by decide +kernel)⟩⟩
def xe52 : xME := (⟨"OverInDinghy$Club", "become", "(LOverInDinghy$Club;)V"⟩, prog_3_method_3_code, 2, none, 2, 0, 1, 1)
set_option maxRecDepth 30000 in
theorem xm52 : mokE xe52 := Or.inr ⟨List.mem_of_getElem? (i := 571) rfl, ⟨List.mem_of_getElem? (i := 82) (by decide +kernel), by decide +kernel, by decide +kernel, by decide +kernel⟩, by decide +kernel, Or.inr ⟨rfl, List.mem_of_getElem? (i := 569) (by decide +kernel), List.mem_of_getElem? (i := 570) (by decide +kernel)⟩⟩
def xe53 : xME := (⟨"OverInDinghy", "fault", "()I"⟩, prog_1_method_8_code, 1, (some .int), 0, 0, 0, 1)
set_option maxRecDepth 30000 in
theorem xm53 : mokE xe53 := Or.inr ⟨List.mem_of_getElem? (i := 576) rfl, ⟨List.mem_of_getElem? (i := 78) (by decide +kernel), by decide +kernel, by decide +kernel, by decide +kernel⟩, by decide +kernel, Or.inr ⟨rfl, List.mem_of_getElem? (i := 574) (by decide +kernel), List.mem_of_getElem? (i := 575) (by decide +kernel)⟩⟩
def xe54 : xME := (⟨"OverInDinghy", "place", "(II)J"⟩, prog_1_method_9_code, 3, (some .long), 0, 1, 2, 1)
set_option maxRecDepth 30000 in
theorem xm54 : mokE xe54 := Or.inr ⟨List.mem_of_getElem? (i := 580) rfl, ⟨List.mem_of_getElem? (i := 78) (by decide +kernel), by decide +kernel, by decide +kernel, by decide +kernel⟩, by decide +kernel, Or.inr ⟨rfl, List.mem_of_getElem? (i := 578) (by decide +kernel), List.mem_of_getElem? (i := 579) (by decide +kernel)⟩⟩
def xe55 : xME := (⟨"OverInDinghy$Club", "isHand", "(I)Z"⟩, prog_3_method_6_code, 2, (some .boolean), 2, 0, 1, 1)
set_option maxRecDepth 30000 in
theorem xm55 : mokE xe55 := Or.inr ⟨List.mem_of_getElem? (i := 584) rfl, ⟨List.mem_of_getElem? (i := 82) (by decide +kernel), by decide +kernel, by decide +kernel, by decide +kernel⟩, by decide +kernel, Or.inr ⟨rfl, List.mem_of_getElem? (i := 582) (by decide +kernel), List.mem_of_getElem? (i := 583) (by decide +kernel)⟩⟩
def xe56 : xME := (⟨"OverInDinghy$Club", "can", "(I)Z"⟩, prog_3_method_8_code, 2, (some .boolean), 2, 0, 1, 1)
set_option maxRecDepth 30000 in
theorem xm56 : mokE xe56 := Or.inr ⟨List.mem_of_getElem? (i := 588) rfl, ⟨List.mem_of_getElem? (i := 82) (by decide +kernel), by decide +kernel, by decide +kernel, by decide +kernel⟩, by decide +kernel, Or.inr ⟨rfl, List.mem_of_getElem? (i := 586) (by decide +kernel), List.mem_of_getElem? (i := 587) (by decide +kernel)⟩⟩
def xe57 : xME := (⟨"OverInDinghy$Club", "isOver", "(I)Z"⟩, prog_3_method_9_code, 2, (some .boolean), 2, 0, 1, 1)
set_option maxRecDepth 30000 in
theorem xm57 : mokE xe57 := Or.inr ⟨List.mem_of_getElem? (i := 592) rfl, ⟨List.mem_of_getElem? (i := 82) (by decide +kernel), by decide +kernel, by decide +kernel, by decide +kernel⟩, by decide +kernel, Or.inr ⟨rfl, List.mem_of_getElem? (i := 590) (by decide +kernel), List.mem_of_getElem? (i := 591) (by decide +kernel)⟩⟩
def xe58 : xME := (⟨"OverInDinghy", "tip", "(I)J"⟩, prog_1_method_10_code, 2, (some .long), 0, 2, 1, 1)
set_option maxRecDepth 30000 in
theorem xm58 : mokE xe58 := Or.inr ⟨List.mem_of_getElem? (i := 597) rfl, ⟨List.mem_of_getElem? (i := 78) (by decide +kernel), by decide +kernel, by decide +kernel, by decide +kernel⟩, by decide +kernel, Or.inr ⟨rfl, List.mem_of_getElem? (i := 595) (by decide +kernel), List.mem_of_getElem? (i := 596) (by decide +kernel)⟩⟩
def xe59 : xME := (⟨"OverInDinghy$Club", "isBoat", "(I)Z"⟩, prog_3_method_5_code, 2, (some .boolean), 2, 0, 1, 1)
set_option maxRecDepth 30000 in
theorem xm59 : mokE xe59 := Or.inr ⟨List.mem_of_getElem? (i := 601) rfl, ⟨List.mem_of_getElem? (i := 82) (by decide +kernel), by decide +kernel, by decide +kernel, by decide +kernel⟩, by decide +kernel, Or.inr ⟨rfl, List.mem_of_getElem? (i := 599) (by decide +kernel), List.mem_of_getElem? (i := 600) (by decide +kernel)⟩⟩
def xmt2 : List xME := [xe40, xe41, xe42, xe43, xe44, xe45, xe46, xe47, xe48, xe49, xe50, xe51, xe52, xe53, xe54, xe55, xe56, xe57, xe58, xe59]
theorem xmt2_ok : ∀ e ∈ xmt2, mokE e := List.forall_mem_cons.mpr ⟨xm40, List.forall_mem_cons.mpr ⟨xm41, List.forall_mem_cons.mpr ⟨xm42, List.forall_mem_cons.mpr ⟨xm43, List.forall_mem_cons.mpr ⟨xm44, List.forall_mem_cons.mpr ⟨xm45, List.forall_mem_cons.mpr ⟨xm46, List.forall_mem_cons.mpr ⟨xm47, List.forall_mem_cons.mpr ⟨xm48, List.forall_mem_cons.mpr ⟨xm49, List.forall_mem_cons.mpr ⟨xm50, List.forall_mem_cons.mpr ⟨xm51, List.forall_mem_cons.mpr ⟨xm52, List.forall_mem_cons.mpr ⟨xm53, List.forall_mem_cons.mpr ⟨xm54, List.forall_mem_cons.mpr ⟨xm55, List.forall_mem_cons.mpr ⟨xm56, List.forall_mem_cons.mpr ⟨xm57, List.forall_mem_cons.mpr ⟨xm58, List.forall_mem_cons.mpr ⟨xm59, fun _ h => absurd h List.not_mem_nil⟩⟩⟩⟩⟩⟩⟩⟩⟩⟩⟩⟩⟩⟩⟩⟩⟩⟩⟩⟩
def xe60 : xME := (⟨"OverInDinghy$Club", "capsize", "(I)V"⟩, prog_3_method_22_code, 2, none, 2, 1, 1, 1)
set_option maxRecDepth 30000 in
theorem xm60 : mokE xe60 := Or.inr ⟨List.mem_of_getElem? (i := 605) rfl, ⟨List.mem_of_getElem? (i := 82) (by decide +kernel), by decide +kernel, by decide +kernel, by decide +kernel⟩, by decide +kernel, Or.inr ⟨rfl, List.mem_of_getElem? (i := 603) (by decide +kernel), List.mem_of_getElem? (i := 604) (by decide +kernel)⟩⟩
def xe61 : xME := (⟨"OverInDinghy$Club", "sendAll", "(III)V"⟩, prog_3_method_26_code, 5, none, 2, 0, 3, 1)
set_option maxRecDepth 30000 in
theorem xm61 : mokE xe61 := Or.inr ⟨List.mem_of_getElem? (i := 609) rfl, ⟨List.mem_of_getElem? (i := 82) (by decide +kernel), by decide +kernel, by decide +kernel, by decide +kernel⟩, by decide +kernel, Or.inr ⟨rfl, List.mem_of_getElem? (i := 608) (by decide +kernel), List.mem_of_getElem? (i := 13) (by decide +kernel)⟩⟩
def xe62 : xME := (⟨"OverInDinghy", "go", "(II)J"⟩, prog_1_method_11_code, 4, (some .long), 0, 5, 2, 1)
set_option maxRecDepth 30000 in
theorem xm62 : mokE xe62 := Or.inr ⟨List.mem_of_getElem? (i := 613) rfl, ⟨List.mem_of_getElem? (i := 78) (by decide +kernel), by decide +kernel, by decide +kernel, by decide +kernel⟩, by decide +kernel, Or.inr ⟨rfl, List.mem_of_getElem? (i := 611) (by decide +kernel), List.mem_of_getElem? (i := 612) (by decide +kernel)⟩⟩
def xe63 : xME := (⟨"OverInDinghy$Club", "isNone", "()Z"⟩, prog_3_method_4_code, 1, (some .boolean), 2, 0, 0, 1)
set_option maxRecDepth 30000 in
theorem xm63 : mokE xe63 := Or.inr ⟨List.mem_of_getElem? (i := 617) rfl, ⟨List.mem_of_getElem? (i := 82) (by decide +kernel), by decide +kernel, by decide +kernel, by decide +kernel⟩, by decide +kernel, Or.inr ⟨rfl, List.mem_of_getElem? (i := 615) (by decide +kernel), List.mem_of_getElem? (i := 616) (by decide +kernel)⟩⟩
def xe64 : xME := (⟨"OverInDinghy$Draws", "begin", "(I)V"⟩, prog_4_method_2_code, 2, none, 3, 0, 1, 1)
set_option maxRecDepth 30000 in
theorem xm64 : mokE xe64 := Or.inr ⟨List.mem_of_getElem? (i := 622) rfl, ⟨List.mem_of_getElem? (i := 83) (by decide +kernel), by decide +kernel, by decide +kernel, by decide +kernel⟩, by decide +kernel, Or.inr ⟨rfl, List.mem_of_getElem? (i := 620) (by decide +kernel), List.mem_of_getElem? (i := 621) (by decide +kernel)⟩⟩
def xe65 : xME := (⟨"OverInDinghy$Club", "tick", "(LOverInDinghy$Draws;)V"⟩, prog_3_method_20_code, 3, none, 2, 4, 1, 1)
set_option maxRecDepth 30000 in
theorem xm65 : mokE xe65 := Or.inr ⟨List.mem_of_getElem? (i := 626) rfl, ⟨List.mem_of_getElem? (i := 82) (by decide +kernel), by decide +kernel, by decide +kernel, by decide +kernel⟩, by decide +kernel, Or.inr ⟨rfl, List.mem_of_getElem? (i := 624) (by decide +kernel), List.mem_of_getElem? (i := 625) (by decide +kernel)⟩⟩
def xe66 : xME := (⟨"OverInDinghy$Club", "tickBoat", "(ILOverInDinghy$Draws;)V"⟩, prog_3_method_21_code, 5, none, 2, 3, 2, 1)
set_option maxRecDepth 30000 in
theorem xm66 : mokE xe66 := Or.inr ⟨List.mem_of_getElem? (i := 630) rfl, ⟨List.mem_of_getElem? (i := 82) (by decide +kernel), by decide +kernel, by decide +kernel, by decide +kernel⟩, by decide +kernel, Or.inr ⟨rfl, List.mem_of_getElem? (i := 628) (by decide +kernel), List.mem_of_getElem? (i := 629) (by decide +kernel)⟩⟩
def xe67 : xME := (⟨"OverInDinghy$Club", "needNow", "(I)I"⟩, prog_3_method_16_code, 2, (some .int), 2, 1, 1, 1)
set_option maxRecDepth 30000 in
theorem xm67 : mokE xe67 := Or.inr ⟨List.mem_of_getElem? (i := 634) rfl, ⟨List.mem_of_getElem? (i := 82) (by decide +kernel), by decide +kernel, by decide +kernel, by decide +kernel⟩, by decide +kernel, Or.inr ⟨rfl, List.mem_of_getElem? (i := 632) (by decide +kernel), List.mem_of_getElem? (i := 633) (by decide +kernel)⟩⟩
def xe68 : xME := (⟨"OverInDinghy$Club", "ableAt", "(II)I"⟩, prog_3_method_12_code, 5, (some .int), 2, 0, 2, 1)
set_option maxRecDepth 30000 in
theorem xm68 : mokE xe68 := Or.inr ⟨List.mem_of_getElem? (i := 638) rfl, ⟨List.mem_of_getElem? (i := 82) (by decide +kernel), by decide +kernel, by decide +kernel, by decide +kernel⟩, by decide +kernel, Or.inr ⟨rfl, List.mem_of_getElem? (i := 636) (by decide +kernel), List.mem_of_getElem? (i := 637) (by decide +kernel)⟩⟩
def xe69 : xME := (⟨"OverInDinghy$Club", "need", "(IIZ)I"⟩, prog_3_method_14_code, 4, (some .int), 2, 0, 3, 1)
set_option maxRecDepth 30000 in
theorem xm69 : mokE xe69 := Or.inr ⟨List.mem_of_getElem? (i := 642) rfl, ⟨List.mem_of_getElem? (i := 82) (by decide +kernel), by decide +kernel, by decide +kernel, by decide +kernel⟩, by decide +kernel, Or.inr ⟨rfl, List.mem_of_getElem? (i := 640) (by decide +kernel), List.mem_of_getElem? (i := 641) (by decide +kernel)⟩⟩
def xe70 : xME := (⟨"OverInDinghy$Club", "leverNow", "(I)I"⟩, prog_3_method_17_code, 2, (some .int), 2, 1, 1, 1)
set_option maxRecDepth 30000 in
theorem xm70 : mokE xe70 := Or.inr ⟨List.mem_of_getElem? (i := 646) rfl, ⟨List.mem_of_getElem? (i := 82) (by decide +kernel), by decide +kernel, by decide +kernel, by decide +kernel⟩, by decide +kernel, Or.inr ⟨rfl, List.mem_of_getElem? (i := 644) (by decide +kernel), List.mem_of_getElem? (i := 645) (by decide +kernel)⟩⟩
def xe71 : xME := (⟨"OverInDinghy$Club", "ableWeightOnBoard", "(I)I"⟩, prog_3_method_13_code, 4, (some .int), 2, 0, 1, 1)
set_option maxRecDepth 30000 in
theorem xm71 : mokE xe71 := Or.inr ⟨List.mem_of_getElem? (i := 650) rfl, ⟨List.mem_of_getElem? (i := 82) (by decide +kernel), by decide +kernel, by decide +kernel, by decide +kernel⟩, by decide +kernel, Or.inr ⟨rfl, List.mem_of_getElem? (i := 648) (by decide +kernel), List.mem_of_getElem? (i := 649) (by decide +kernel)⟩⟩
def xe72 : xME := (⟨"OverInDinghy$Club", "lever", "(II)I"⟩, prog_3_method_15_code, 3, (some .int), 2, 0, 2, 1)
set_option maxRecDepth 30000 in
theorem xm72 : mokE xe72 := Or.inr ⟨List.mem_of_getElem? (i := 654) rfl, ⟨List.mem_of_getElem? (i := 82) (by decide +kernel), by decide +kernel, by decide +kernel, by decide +kernel⟩, by decide +kernel, Or.inr ⟨rfl, List.mem_of_getElem? (i := 652) (by decide +kernel), List.mem_of_getElem? (i := 653) (by decide +kernel)⟩⟩
def xe73 : xME := (⟨"OverInDinghy$Club", "comeUp", "(ILOverInDinghy$Draws;)V"⟩, prog_3_method_25_code, 3, none, 2, 2, 2, 1)
set_option maxRecDepth 30000 in
theorem xm73 : mokE xe73 := Or.inr ⟨List.mem_of_getElem? (i := 658) rfl, ⟨List.mem_of_getElem? (i := 82) (by decide +kernel), by decide +kernel, by decide +kernel, by decide +kernel⟩, by decide +kernel, Or.inr ⟨rfl, List.mem_of_getElem? (i := 657) (by decide +kernel), List.mem_of_getElem? (i := 14) (by decide +kernel)⟩⟩
def xe74 : xME := (⟨"OverInDinghy$Draws", "draw", "(I)J"⟩, prog_4_method_3_code, 2, (some .long), 3, 0, 1, 1)
set_option maxRecDepth 30000 in
theorem xm74 : mokE xe74 := Or.inr ⟨List.mem_of_getElem? (i := 662) rfl, ⟨List.mem_of_getElem? (i := 83) (by decide +kernel), by decide +kernel, by decide +kernel, by decide +kernel⟩, by decide +kernel, Or.inr ⟨rfl, List.mem_of_getElem? (i := 660) (by decide +kernel), List.mem_of_getElem? (i := 661) (by decide +kernel)⟩⟩
def xe75 : xME := (⟨"OverInDinghy$Club", "fillMast", "(I)V"⟩, prog_3_method_24_code, 2, none, 2, 0, 1, 1)
set_option maxRecDepth 30000 in
theorem xm75 : mokE xe75 := Or.inr ⟨List.mem_of_getElem? (i := 669) rfl, ⟨List.mem_of_getElem? (i := 82) (by decide +kernel), by decide +kernel, by decide +kernel, by decide +kernel⟩, by decide +kernel, Or.inr ⟨rfl, List.mem_of_getElem? (i := 668) (by decide +kernel), List.mem_of_getElem? (i := 15) (by decide +kernel)⟩⟩
def xe76 : xME := (⟨"java/lang/Math", "min", "(II)I"⟩, prog_13_method_69_code, 2, (some .int), 12, 0, 2, 2)
theorem xm76 : mokE xe76 := Or.inl rfl
def xe77 : xME := (⟨"OverInDinghy$Club", "rideOrBail", "(ILOverInDinghy$Draws;)V"⟩, prog_3_method_23_code, 4, none, 2, 2, 2, 1)
set_option maxRecDepth 30000 in
theorem xm77 : mokE xe77 := Or.inr ⟨List.mem_of_getElem? (i := 676) rfl, ⟨List.mem_of_getElem? (i := 82) (by decide +kernel), by decide +kernel, by decide +kernel, by decide +kernel⟩, by decide +kernel, Or.inr ⟨rfl, List.mem_of_getElem? (i := 675) (by decide +kernel), List.mem_of_getElem? (i := 16) (by decide +kernel)⟩⟩
def xe78 : xME := (⟨"OverInDinghy$Club", "weightIn", "(I)I"⟩, prog_3_method_11_code, 4, (some .int), 2, 0, 1, 1)
set_option maxRecDepth 30000 in
theorem xm78 : mokE xe78 := Or.inr ⟨List.mem_of_getElem? (i := 680) rfl, ⟨List.mem_of_getElem? (i := 82) (by decide +kernel), by decide +kernel, by decide +kernel, by decide +kernel⟩, by decide +kernel, Or.inr ⟨rfl, List.mem_of_getElem? (i := 678) (by decide +kernel), List.mem_of_getElem? (i := 679) (by decide +kernel)⟩⟩
def xe79 : xME := (⟨"java/lang/Math", "max", "(II)I"⟩, prog_13_method_65_code, 2, (some .int), 12, 0, 2, 2)
theorem xm79 : mokE xe79 := Or.inl rfl
def xmt3 : List xME := [xe60, xe61, xe62, xe63, xe64, xe65, xe66, xe67, xe68, xe69, xe70, xe71, xe72, xe73, xe74, xe75, xe76, xe77, xe78, xe79]
theorem xmt3_ok : ∀ e ∈ xmt3, mokE e := List.forall_mem_cons.mpr ⟨xm60, List.forall_mem_cons.mpr ⟨xm61, List.forall_mem_cons.mpr ⟨xm62, List.forall_mem_cons.mpr ⟨xm63, List.forall_mem_cons.mpr ⟨xm64, List.forall_mem_cons.mpr ⟨xm65, List.forall_mem_cons.mpr ⟨xm66, List.forall_mem_cons.mpr ⟨xm67, List.forall_mem_cons.mpr ⟨xm68, List.forall_mem_cons.mpr ⟨xm69, List.forall_mem_cons.mpr ⟨xm70, List.forall_mem_cons.mpr ⟨xm71, List.forall_mem_cons.mpr ⟨xm72, List.forall_mem_cons.mpr ⟨xm73, List.forall_mem_cons.mpr ⟨xm74, List.forall_mem_cons.mpr ⟨xm75, List.forall_mem_cons.mpr ⟨xm76, List.forall_mem_cons.mpr ⟨xm77, List.forall_mem_cons.mpr ⟨xm78, List.forall_mem_cons.mpr ⟨xm79, fun _ h => absurd h List.not_mem_nil⟩⟩⟩⟩⟩⟩⟩⟩⟩⟩⟩⟩⟩⟩⟩⟩⟩⟩⟩⟩
def xe80 : xME := (⟨"OverInDinghy$Club", "chill", "(I)V"⟩, prog_3_method_27_code, 3, none, 2, 1, 1, 1)
set_option maxRecDepth 30000 in
theorem xm80 : mokE xe80 := Or.inr ⟨List.mem_of_getElem? (i := 687) rfl, ⟨List.mem_of_getElem? (i := 82) (by decide +kernel), by decide +kernel, by decide +kernel, by decide +kernel⟩, by decide +kernel, Or.inr ⟨rfl, List.mem_of_getElem? (i := 686) (by decide +kernel), List.mem_of_getElem? (i := 17) (by decide +kernel)⟩⟩
def xe81 : xME := (⟨"OverInDinghy$Club", "chillOf", "(I)I"⟩, prog_3_method_28_code, 4, (some .int), 2, 0, 1, 1)
set_option maxRecDepth 30000 in
theorem xm81 : mokE xe81 := Or.inr ⟨List.mem_of_getElem? (i := 691) rfl, ⟨List.mem_of_getElem? (i := 82) (by decide +kernel), by decide +kernel, by decide +kernel, by decide +kernel⟩, by decide +kernel, Or.inr ⟨rfl, List.mem_of_getElem? (i := 689) (by decide +kernel), List.mem_of_getElem? (i := 690) (by decide +kernel)⟩⟩
def xe82 : xME := (⟨"OverInDinghy", "boat", "(II)J"⟩, prog_1_method_12_code, 3, (some .long), 0, 2, 2, 1)
set_option maxRecDepth 30000 in
theorem xm82 : mokE xe82 := Or.inr ⟨List.mem_of_getElem? (i := 695) rfl, ⟨List.mem_of_getElem? (i := 78) (by decide +kernel), by decide +kernel, by decide +kernel, by decide +kernel⟩, by decide +kernel, Or.inr ⟨rfl, List.mem_of_getElem? (i := 693) (by decide +kernel), List.mem_of_getElem? (i := 694) (by decide +kernel)⟩⟩
def xe83 : xME := (⟨"OverInDinghy", "hand", "(II)J"⟩, prog_1_method_13_code, 3, (some .long), 0, 1, 2, 1)
set_option maxRecDepth 30000 in
theorem xm83 : mokE xe83 := Or.inr ⟨List.mem_of_getElem? (i := 702) rfl, ⟨List.mem_of_getElem? (i := 78) (by decide +kernel), by decide +kernel, by decide +kernel, by decide +kernel⟩, by decide +kernel, Or.inr ⟨rfl, List.mem_of_getElem? (i := 700) (by decide +kernel), List.mem_of_getElem? (i := 701) (by decide +kernel)⟩⟩
def xe84 : xME := (⟨"OverInDinghy", "rights", "(IIII)J"⟩, prog_1_method_14_code, 5, (some .long), 0, 3, 4, 1)
set_option maxRecDepth 30000 in
theorem xm84 : mokE xe84 := Or.inr ⟨List.mem_of_getElem? (i := 706) rfl, ⟨List.mem_of_getElem? (i := 78) (by decide +kernel), by decide +kernel, by decide +kernel, by decide +kernel⟩, by decide +kernel, Or.inr ⟨rfl, List.mem_of_getElem? (i := 704) (by decide +kernel), List.mem_of_getElem? (i := 705) (by decide +kernel)⟩⟩
def xe85 : xME := (⟨"OverInDinghy$Club", "isHandOf", "(II)Z"⟩, prog_3_method_7_code, 3, (some .boolean), 2, 1, 2, 1)
set_option maxRecDepth 30000 in
theorem xm85 : mokE xe85 := Or.inr ⟨List.mem_of_getElem? (i := 710) rfl, ⟨List.mem_of_getElem? (i := 82) (by decide +kernel), by decide +kernel, by decide +kernel, by decide +kernel⟩, by decide +kernel, Or.inr ⟨rfl, List.mem_of_getElem? (i := 708) (by decide +kernel), List.mem_of_getElem? (i := 709) (by decide +kernel)⟩⟩
def xe86 : xME := (⟨"OverInDinghy$Foretold", "enough", "(LOverInDinghy$Club;IIII)J"⟩, prog_5_method_2_code, 10, (some .long), 4, 2, 5, 0)
set_option maxRecDepth 30000 in
theorem xm86 : mokE xe86 := Or.inr ⟨List.mem_of_getElem? (i := 714) rfl, ⟨List.mem_of_getElem? (i := 94) (by decide +kernel), by decide +kernel, by decide +kernel, by decide +kernel⟩, by decide +kernel, Or.inl ⟨rfl, List.mem_of_getElem? (i := 713) (by decide +kernel)⟩⟩
def xe87 : xME := (⟨"OverInDinghy$Foretold", "ableBits", "(LOverInDinghy$Club;II)I"⟩, prog_5_method_3_code, 5, (some .int), 4, 1, 3, 0)
set_option maxRecDepth 30000 in
theorem xm87 : mokE xe87 := Or.inr ⟨List.mem_of_getElem? (i := 718) rfl, ⟨List.mem_of_getElem? (i := 94) (by decide +kernel), by decide +kernel, by decide +kernel, by decide +kernel⟩, by decide +kernel, Or.inl ⟨rfl, List.mem_of_getElem? (i := 717) (by decide +kernel)⟩⟩
def xe88 : xME := (⟨"OverInDinghy$Foretold", "weightOf", "(LOverInDinghy$Club;I)I"⟩, prog_5_method_4_code, 4, (some .int), 4, 0, 2, 0)
set_option maxRecDepth 30000 in
theorem xm88 : mokE xe88 := Or.inr ⟨List.mem_of_getElem? (i := 722) rfl, ⟨List.mem_of_getElem? (i := 94) (by decide +kernel), by decide +kernel, by decide +kernel, by decide +kernel⟩, by decide +kernel, Or.inl ⟨rfl, List.mem_of_getElem? (i := 721) (by decide +kernel)⟩⟩
def xe89 : xME := (⟨"OverInDinghy", "lightest", "(I)J"⟩, prog_1_method_15_code, 2, (some .long), 0, 2, 1, 1)
set_option maxRecDepth 30000 in
theorem xm89 : mokE xe89 := Or.inr ⟨List.mem_of_getElem? (i := 728) rfl, ⟨List.mem_of_getElem? (i := 78) (by decide +kernel), by decide +kernel, by decide +kernel, by decide +kernel⟩, by decide +kernel, Or.inr ⟨rfl, List.mem_of_getElem? (i := 726) (by decide +kernel), List.mem_of_getElem? (i := 727) (by decide +kernel)⟩⟩
def xe90 : xME := (⟨"OverInDinghy$Foretold", "leastWeight", "(LOverInDinghy$Club;I)I"⟩, prog_5_method_5_code, 4, (some .int), 4, 1, 2, 0)
set_option maxRecDepth 30000 in
theorem xm90 : mokE xe90 := Or.inr ⟨List.mem_of_getElem? (i := 731) rfl, ⟨List.mem_of_getElem? (i := 94) (by decide +kernel), by decide +kernel, by decide +kernel, by decide +kernel⟩, by decide +kernel, Or.inl ⟨rfl, List.mem_of_getElem? (i := 730) (by decide +kernel)⟩⟩
def xe91 : xME := (⟨"OverInDinghy", "round", "(I)J"⟩, prog_1_method_16_code, 2, (some .long), 0, 2, 1, 1)
set_option maxRecDepth 30000 in
theorem xm91 : mokE xe91 := Or.inr ⟨List.mem_of_getElem? (i := 736) rfl, ⟨List.mem_of_getElem? (i := 78) (by decide +kernel), by decide +kernel, by decide +kernel, by decide +kernel⟩, by decide +kernel, Or.inr ⟨rfl, List.mem_of_getElem? (i := 734) (by decide +kernel), List.mem_of_getElem? (i := 735) (by decide +kernel)⟩⟩
def xe92 : xME := (⟨"OverInDinghy$Foretold", "ticksTillRound", "(I)I"⟩, prog_5_method_6_code, 1, (some .int), 4, 1, 1, 0)
set_option maxRecDepth 30000 in
theorem xm92 : mokE xe92 := Or.inr ⟨List.mem_of_getElem? (i := 739) rfl, ⟨List.mem_of_getElem? (i := 94) (by decide +kernel), by decide +kernel, by decide +kernel, by decide +kernel⟩, by decide +kernel, Or.inl ⟨rfl, List.mem_of_getElem? (i := 738) (by decide +kernel)⟩⟩
def xe93 : xME := (⟨"OverInDinghy$Foretold", "upTo", "(II)I"⟩, prog_5_method_7_code, 2, (some .int), 4, 0, 2, 0)
set_option maxRecDepth 30000 in
theorem xm93 : mokE xe93 := Or.inr ⟨List.mem_of_getElem? (i := 742) rfl, ⟨List.mem_of_getElem? (i := 94) (by decide +kernel), by decide +kernel, by decide +kernel, by decide +kernel⟩, by decide +kernel, Or.inl ⟨rfl, List.mem_of_getElem? (i := 741) (by decide +kernel)⟩⟩
def xe94 : xME := (⟨"OverInDinghy", "quickest", "(II)J"⟩, prog_1_method_17_code, 3, (some .long), 0, 7, 2, 1)
set_option maxRecDepth 30000 in
theorem xm94 : mokE xe94 := Or.inr ⟨List.mem_of_getElem? (i := 746) rfl, ⟨List.mem_of_getElem? (i := 78) (by decide +kernel), by decide +kernel, by decide +kernel, by decide +kernel⟩, by decide +kernel, Or.inr ⟨rfl, List.mem_of_getElem? (i := 744) (by decide +kernel), List.mem_of_getElem? (i := 745) (by decide +kernel)⟩⟩
def xe95 : xME := (⟨"OverInDinghy$Search", "look", "(LOverInDinghy$Club;I)V"⟩, prog_10_method_2_code, 4, none, 9, 6, 2, 1)
set_option maxRecDepth 30000 in
theorem xm95 : mokE xe95 := Or.inr ⟨List.mem_of_getElem? (i := 750) rfl, ⟨List.mem_of_getElem? (i := 84) (by decide +kernel), by decide +kernel, by decide +kernel, by decide +kernel⟩, by decide +kernel, Or.inr ⟨rfl, List.mem_of_getElem? (i := 748) (by decide +kernel), List.mem_of_getElem? (i := 749) (by decide +kernel)⟩⟩
def xe96 : xME := (⟨"OverInDinghy$Search", "nextAble", "(II)I"⟩, prog_10_method_4_code, 4, (some .int), 9, 1, 2, 1)
set_option maxRecDepth 30000 in
theorem xm96 : mokE xe96 := Or.inr ⟨List.mem_of_getElem? (i := 756) rfl, ⟨List.mem_of_getElem? (i := 84) (by decide +kernel), by decide +kernel, by decide +kernel, by decide +kernel⟩, by decide +kernel, Or.inr ⟨rfl, List.mem_of_getElem? (i := 755) (by decide +kernel), List.mem_of_getElem? (i := 18) (by decide +kernel)⟩⟩
def xe97 : xME := (⟨"OverInDinghy$Search", "keep", "(II)V"⟩, prog_10_method_10_code, 4, none, 9, 0, 2, 1)
set_option maxRecDepth 30000 in
theorem xm97 : mokE xe97 := Or.inr ⟨List.mem_of_getElem? (i := 761) rfl, ⟨List.mem_of_getElem? (i := 84) (by decide +kernel), by decide +kernel, by decide +kernel, by decide +kernel⟩, by decide +kernel, Or.inr ⟨rfl, List.mem_of_getElem? (i := 760) (by decide +kernel), List.mem_of_getElem? (i := 19) (by decide +kernel)⟩⟩
def xe98 : xME := (⟨"OverInDinghy$Search", "tellsWater", "(I)Z"⟩, prog_10_method_5_code, 1, (some .boolean), 9, 0, 1, 0)
set_option maxRecDepth 30000 in
theorem xm98 : mokE xe98 := Or.inr ⟨List.mem_of_getElem? (i := 765) rfl, ⟨List.mem_of_getElem? (i := 84) (by decide +kernel), by decide +kernel, by decide +kernel, by decide +kernel⟩, by decide +kernel, Or.inl ⟨rfl, List.mem_of_getElem? (i := 764) (by decide +kernel)⟩⟩
def xe99 : xME := (⟨"OverInDinghy$Search", "tryRow", "(II)V"⟩, prog_10_method_6_code, 7, none, 9, 5, 2, 1)
set_option maxRecDepth 30000 in
theorem xm99 : mokE xe99 := Or.inr ⟨List.mem_of_getElem? (i := 769) rfl, ⟨List.mem_of_getElem? (i := 84) (by decide +kernel), by decide +kernel, by decide +kernel, by decide +kernel⟩, by decide +kernel, Or.inr ⟨rfl, List.mem_of_getElem? (i := 768) (by decide +kernel), List.mem_of_getElem? (i := 20) (by decide +kernel)⟩⟩
def xmt4 : List xME := [xe80, xe81, xe82, xe83, xe84, xe85, xe86, xe87, xe88, xe89, xe90, xe91, xe92, xe93, xe94, xe95, xe96, xe97, xe98, xe99]
theorem xmt4_ok : ∀ e ∈ xmt4, mokE e := List.forall_mem_cons.mpr ⟨xm80, List.forall_mem_cons.mpr ⟨xm81, List.forall_mem_cons.mpr ⟨xm82, List.forall_mem_cons.mpr ⟨xm83, List.forall_mem_cons.mpr ⟨xm84, List.forall_mem_cons.mpr ⟨xm85, List.forall_mem_cons.mpr ⟨xm86, List.forall_mem_cons.mpr ⟨xm87, List.forall_mem_cons.mpr ⟨xm88, List.forall_mem_cons.mpr ⟨xm89, List.forall_mem_cons.mpr ⟨xm90, List.forall_mem_cons.mpr ⟨xm91, List.forall_mem_cons.mpr ⟨xm92, List.forall_mem_cons.mpr ⟨xm93, List.forall_mem_cons.mpr ⟨xm94, List.forall_mem_cons.mpr ⟨xm95, List.forall_mem_cons.mpr ⟨xm96, List.forall_mem_cons.mpr ⟨xm97, List.forall_mem_cons.mpr ⟨xm98, List.forall_mem_cons.mpr ⟨xm99, fun _ h => absurd h List.not_mem_nil⟩⟩⟩⟩⟩⟩⟩⟩⟩⟩⟩⟩⟩⟩⟩⟩⟩⟩⟩⟩
def xe100 : xME := (⟨"OverInDinghy$Search", "bringBack", "(II)V"⟩, prog_10_method_11_code, 4, none, 9, 0, 2, 1)
set_option maxRecDepth 30000 in
theorem xm100 : mokE xe100 := Or.inr ⟨List.mem_of_getElem? (i := 773) rfl, ⟨List.mem_of_getElem? (i := 84) (by decide +kernel), by decide +kernel, by decide +kernel, by decide +kernel⟩, by decide +kernel, Or.inr ⟨rfl, List.mem_of_getElem? (i := 772) (by decide +kernel), List.mem_of_getElem? (i := 21) (by decide +kernel)⟩⟩
def xe101 : xME := (⟨"OverInDinghy$Search", "toldFor", "(II)I"⟩, prog_10_method_7_code, 2, (some .int), 9, 0, 2, 0)
set_option maxRecDepth 30000 in
theorem xm101 : mokE xe101 := Or.inr ⟨List.mem_of_getElem? (i := 776) rfl, ⟨List.mem_of_getElem? (i := 84) (by decide +kernel), by decide +kernel, by decide +kernel, by decide +kernel⟩, by decide +kernel, Or.inl ⟨rfl, List.mem_of_getElem? (i := 775) (by decide +kernel)⟩⟩
def xe102 : xME := (⟨"OverInDinghy$Search", "isUpBehind", "(II)Z"⟩, prog_10_method_8_code, 3, (some .boolean), 9, 4, 2, 1)
set_option maxRecDepth 30000 in
theorem xm102 : mokE xe102 := Or.inr ⟨List.mem_of_getElem? (i := 780) rfl, ⟨List.mem_of_getElem? (i := 84) (by decide +kernel), by decide +kernel, by decide +kernel, by decide +kernel⟩, by decide +kernel, Or.inr ⟨rfl, List.mem_of_getElem? (i := 779) (by decide +kernel), List.mem_of_getElem? (i := 22) (by decide +kernel)⟩⟩
def xe103 : xME := (⟨"OverInDinghy$Search", "send", "(III)V"⟩, prog_10_method_9_code, 4, none, 9, 1, 3, 1)
set_option maxRecDepth 30000 in
theorem xm103 : mokE xe103 := Or.inr ⟨List.mem_of_getElem? (i := 784) rfl, ⟨List.mem_of_getElem? (i := 84) (by decide +kernel), by decide +kernel, by decide +kernel, by decide +kernel⟩, by decide +kernel, Or.inr ⟨rfl, List.mem_of_getElem? (i := 783) (by decide +kernel), List.mem_of_getElem? (i := 23) (by decide +kernel)⟩⟩
def xe104 : xME := (⟨"OverInDinghy$Search", "ticks", "()I"⟩, prog_10_method_3_code, 1, (some .int), 9, 0, 0, 1)
set_option maxRecDepth 30000 in
theorem xm104 : mokE xe104 := Or.inr ⟨List.mem_of_getElem? (i := 790) rfl, ⟨List.mem_of_getElem? (i := 84) (by decide +kernel), by decide +kernel, by decide +kernel, by decide +kernel⟩, by decide +kernel, Or.inr ⟨rfl, List.mem_of_getElem? (i := 788) (by decide +kernel), List.mem_of_getElem? (i := 789) (by decide +kernel)⟩⟩
def xe105 : xME := (⟨"OverInDinghy", "tries", "(II)J"⟩, prog_1_method_18_code, 3, (some .long), 0, 1, 2, 1)
set_option maxRecDepth 30000 in
theorem xm105 : mokE xe105 := Or.inr ⟨List.mem_of_getElem? (i := 794) rfl, ⟨List.mem_of_getElem? (i := 78) (by decide +kernel), by decide +kernel, by decide +kernel, by decide +kernel⟩, by decide +kernel, Or.inr ⟨rfl, List.mem_of_getElem? (i := 792) (by decide +kernel), List.mem_of_getElem? (i := 793) (by decide +kernel)⟩⟩
def xe106 : xME := (⟨"OverInDinghy", "airs", "(I)J"⟩, prog_1_method_19_code, 2, (some .long), 0, 4, 1, 1)
set_option maxRecDepth 30000 in
theorem xm106 : mokE xe106 := Or.inr ⟨List.mem_of_getElem? (i := 800) rfl, ⟨List.mem_of_getElem? (i := 78) (by decide +kernel), by decide +kernel, by decide +kernel, by decide +kernel⟩, by decide +kernel, Or.inr ⟨rfl, List.mem_of_getElem? (i := 798) (by decide +kernel), List.mem_of_getElem? (i := 799) (by decide +kernel)⟩⟩
def xe107 : xME := (⟨"OverInDinghy$Foretold", "bestAirs", "(I)I"⟩, prog_5_method_8_code, 3, (some .int), 4, 3, 1, 0)
set_option maxRecDepth 30000 in
theorem xm107 : mokE xe107 := Or.inr ⟨List.mem_of_getElem? (i := 803) rfl, ⟨List.mem_of_getElem? (i := 94) (by decide +kernel), by decide +kernel, by decide +kernel, by decide +kernel⟩, by decide +kernel, Or.inl ⟨rfl, List.mem_of_getElem? (i := 802) (by decide +kernel)⟩⟩
def xe108 : xME := (⟨"OverInDinghy$Foretold", "isBeaten", "(II)Z"⟩, prog_5_method_9_code, 3, (some .boolean), 4, 2, 2, 0)
set_option maxRecDepth 30000 in
theorem xm108 : mokE xe108 := Or.inr ⟨List.mem_of_getElem? (i := 806) rfl, ⟨List.mem_of_getElem? (i := 94) (by decide +kernel), by decide +kernel, by decide +kernel, by decide +kernel⟩, by decide +kernel, Or.inl ⟨rfl, List.mem_of_getElem? (i := 805) (by decide +kernel)⟩⟩
def xe109 : xME := (⟨"OverInDinghy$Foretold", "bails", "(II)I"⟩, prog_5_method_10_code, 2, (some .int), 4, 1, 2, 0)
set_option maxRecDepth 30000 in
theorem xm109 : mokE xe109 := Or.inr ⟨List.mem_of_getElem? (i := 809) rfl, ⟨List.mem_of_getElem? (i := 94) (by decide +kernel), by decide +kernel, by decide +kernel, by decide +kernel⟩, by decide +kernel, Or.inl ⟨rfl, List.mem_of_getElem? (i := 808) (by decide +kernel)⟩⟩
def xe110 : xME := (⟨"OverInDinghy", "first", "(IIII)J"⟩, prog_1_method_20_code, 5, (some .long), 0, 2, 4, 1)
set_option maxRecDepth 30000 in
theorem xm110 : mokE xe110 := Or.inr ⟨List.mem_of_getElem? (i := 813) rfl, ⟨List.mem_of_getElem? (i := 78) (by decide +kernel), by decide +kernel, by decide +kernel, by decide +kernel⟩, by decide +kernel, Or.inr ⟨rfl, List.mem_of_getElem? (i := 811) (by decide +kernel), List.mem_of_getElem? (i := 812) (by decide +kernel)⟩⟩
def xe111 : xME := (⟨"OverInDinghy$Rows", "within", "(III)Z"⟩, prog_9_method_9_code, 5, (some .boolean), 8, 1, 3, 1)
set_option maxRecDepth 30000 in
theorem xm111 : mokE xe111 := Or.inr ⟨List.mem_of_getElem? (i := 817) rfl, ⟨List.mem_of_getElem? (i := 79) (by decide +kernel), by decide +kernel, by decide +kernel, by decide +kernel⟩, by decide +kernel, Or.inr ⟨rfl, List.mem_of_getElem? (i := 815) (by decide +kernel), List.mem_of_getElem? (i := 816) (by decide +kernel)⟩⟩
def xe112 : xME := (⟨"OverInDinghy$Rows", "item", "(II)I"⟩, prog_9_method_6_code, 3, (some .int), 8, 0, 2, 1)
set_option maxRecDepth 30000 in
theorem xm112 : mokE xe112 := Or.inr ⟨List.mem_of_getElem? (i := 821) rfl, ⟨List.mem_of_getElem? (i := 79) (by decide +kernel), by decide +kernel, by decide +kernel, by decide +kernel⟩, by decide +kernel, Or.inr ⟨rfl, List.mem_of_getElem? (i := 819) (by decide +kernel), List.mem_of_getElem? (i := 820) (by decide +kernel)⟩⟩
def xe113 : xME := (⟨"OverInDinghy$Rescue", "plan", "(LOverInDinghy$Rows;III)V"⟩, prog_8_method_2_code, 6, none, 7, 1, 4, 1)
set_option maxRecDepth 30000 in
theorem xm113 : mokE xe113 := Or.inr ⟨List.mem_of_getElem? (i := 825) rfl, ⟨List.mem_of_getElem? (i := 85) (by decide +kernel), by decide +kernel, by decide +kernel, by decide +kernel⟩, by decide +kernel, Or.inr ⟨rfl, List.mem_of_getElem? (i := 823) (by decide +kernel), List.mem_of_getElem? (i := 824) (by decide +kernel)⟩⟩
def xe114 : xME := (⟨"OverInDinghy$Rescue", "insert", "(I)V"⟩, prog_8_method_3_code, 3, none, 7, 0, 1, 1)
set_option maxRecDepth 30000 in
theorem xm114 : mokE xe114 := Or.inr ⟨List.mem_of_getElem? (i := 830) rfl, ⟨List.mem_of_getElem? (i := 85) (by decide +kernel), by decide +kernel, by decide +kernel, by decide +kernel⟩, by decide +kernel, Or.inr ⟨rfl, List.mem_of_getElem? (i := 829) (by decide +kernel), List.mem_of_getElem? (i := 24) (by decide +kernel)⟩⟩
def xe115 : xME := (⟨"OverInDinghy$Rescue", "sortPair", "(I)V"⟩, prog_8_method_4_code, 3, none, 7, 0, 1, 1)
set_option maxRecDepth 30000 in
theorem xm115 : mokE xe115 := Or.inr ⟨List.mem_of_getElem? (i := 834) rfl, ⟨List.mem_of_getElem? (i := 85) (by decide +kernel), by decide +kernel, by decide +kernel, by decide +kernel⟩, by decide +kernel, Or.inr ⟨rfl, List.mem_of_getElem? (i := 833) (by decide +kernel), List.mem_of_getElem? (i := 25) (by decide +kernel)⟩⟩
def xe116 : xME := (⟨"OverInDinghy$Rescue", "waited", "(II)I"⟩, prog_8_method_5_code, 6, (some .int), 7, 0, 2, 1)
set_option maxRecDepth 30000 in
theorem xm116 : mokE xe116 := Or.inr ⟨List.mem_of_getElem? (i := 838) rfl, ⟨List.mem_of_getElem? (i := 85) (by decide +kernel), by decide +kernel, by decide +kernel, by decide +kernel⟩, by decide +kernel, Or.inr ⟨rfl, List.mem_of_getElem? (i := 836) (by decide +kernel), List.mem_of_getElem? (i := 837) (by decide +kernel)⟩⟩
def xe117 : xME := (⟨"OverInDinghy", "over", "(IIII)J"⟩, prog_1_method_21_code, 11, (some .long), 0, 2, 4, 1)
set_option maxRecDepth 30000 in
theorem xm117 : mokE xe117 := Or.inr ⟨List.mem_of_getElem? (i := 843) rfl, ⟨List.mem_of_getElem? (i := 78) (by decide +kernel), by decide +kernel, by decide +kernel, by decide +kernel⟩, by decide +kernel, Or.inr ⟨rfl, List.mem_of_getElem? (i := 841) (by decide +kernel), List.mem_of_getElem? (i := 842) (by decide +kernel)⟩⟩
def xe118 : xME := (⟨"OverInDinghy$Odds", "areBoats", "(II)Z"⟩, prog_6_method_2_code, 2, (some .boolean), 5, 0, 2, 0)
set_option maxRecDepth 30000 in
theorem xm118 : mokE xe118 := Or.inr ⟨List.mem_of_getElem? (i := 846) rfl, ⟨List.mem_of_getElem? (i := 95) (by decide +kernel), by decide +kernel, by decide +kernel, by decide +kernel⟩, by decide +kernel, Or.inl ⟨rfl, List.mem_of_getElem? (i := 845) (by decide +kernel)⟩⟩
def xe119 : xME := (⟨"OverInDinghy$Odds", "above", "(III)J"⟩, prog_6_method_3_code, 6, (some .long), 5, 1, 3, 0)
set_option maxRecDepth 30000 in
theorem xm119 : mokE xe119 := Or.inr ⟨List.mem_of_getElem? (i := 849) rfl, ⟨List.mem_of_getElem? (i := 95) (by decide +kernel), by decide +kernel, by decide +kernel, by decide +kernel⟩, by decide +kernel, Or.inl ⟨rfl, List.mem_of_getElem? (i := 848) (by decide +kernel)⟩⟩
def xmt5 : List xME := [xe100, xe101, xe102, xe103, xe104, xe105, xe106, xe107, xe108, xe109, xe110, xe111, xe112, xe113, xe114, xe115, xe116, xe117, xe118, xe119]
theorem xmt5_ok : ∀ e ∈ xmt5, mokE e := List.forall_mem_cons.mpr ⟨xm100, List.forall_mem_cons.mpr ⟨xm101, List.forall_mem_cons.mpr ⟨xm102, List.forall_mem_cons.mpr ⟨xm103, List.forall_mem_cons.mpr ⟨xm104, List.forall_mem_cons.mpr ⟨xm105, List.forall_mem_cons.mpr ⟨xm106, List.forall_mem_cons.mpr ⟨xm107, List.forall_mem_cons.mpr ⟨xm108, List.forall_mem_cons.mpr ⟨xm109, List.forall_mem_cons.mpr ⟨xm110, List.forall_mem_cons.mpr ⟨xm111, List.forall_mem_cons.mpr ⟨xm112, List.forall_mem_cons.mpr ⟨xm113, List.forall_mem_cons.mpr ⟨xm114, List.forall_mem_cons.mpr ⟨xm115, List.forall_mem_cons.mpr ⟨xm116, List.forall_mem_cons.mpr ⟨xm117, List.forall_mem_cons.mpr ⟨xm118, List.forall_mem_cons.mpr ⟨xm119, fun _ h => absurd h List.not_mem_nil⟩⟩⟩⟩⟩⟩⟩⟩⟩⟩⟩⟩⟩⟩⟩⟩⟩⟩⟩⟩
def xe120 : xME := (⟨"OverInDinghy$Odds", "ways", "(II)J"⟩, prog_6_method_4_code, 5, (some .long), 5, 0, 2, 0)
set_option maxRecDepth 30000 in
theorem xm120 : mokE xe120 := Or.inr ⟨List.mem_of_getElem? (i := 852) rfl, ⟨List.mem_of_getElem? (i := 95) (by decide +kernel), by decide +kernel, by decide +kernel, by decide +kernel⟩, by decide +kernel, Or.inl ⟨rfl, List.mem_of_getElem? (i := 851) (by decide +kernel)⟩⟩
def xe121 : xME := (⟨"OverInDinghy$Odds", "power", "(JI)J"⟩, prog_6_method_5_code, 6, (some .long), 5, 0, 2, 0)
set_option maxRecDepth 30000 in
theorem xm121 : mokE xe121 := Or.inr ⟨List.mem_of_getElem? (i := 855) rfl, ⟨List.mem_of_getElem? (i := 95) (by decide +kernel), by decide +kernel, by decide +kernel, by decide +kernel⟩, by decide +kernel, Or.inl ⟨rfl, List.mem_of_getElem? (i := 854) (by decide +kernel)⟩⟩
def xe122 : xME := (⟨"OverInDinghy$Odds", "divisor", "(JJ)J"⟩, prog_6_method_6_code, 11, (some .long), 5, 0, 2, 0)
set_option maxRecDepth 30000 in
theorem xm122 : mokE xe122 := Or.inr ⟨List.mem_of_getElem? (i := 860) rfl, ⟨List.mem_of_getElem? (i := 95) (by decide +kernel), by decide +kernel, by decide +kernel, by decide +kernel⟩, by decide +kernel, Or.inl ⟨rfl, List.mem_of_getElem? (i := 859) (by decide +kernel)⟩⟩
def xe123 : xME := (⟨"OverInDinghy", "staysIn", "(III)J"⟩, prog_1_method_22_code, 5, (some .long), 0, 2, 3, 1)
set_option maxRecDepth 30000 in
theorem xm123 : mokE xe123 := Or.inr ⟨List.mem_of_getElem? (i := 864) rfl, ⟨List.mem_of_getElem? (i := 78) (by decide +kernel), by decide +kernel, by decide +kernel, by decide +kernel⟩, by decide +kernel, Or.inr ⟨rfl, List.mem_of_getElem? (i := 862) (by decide +kernel), List.mem_of_getElem? (i := 863) (by decide +kernel)⟩⟩
def xe124 : xME := (⟨"OverInDinghy", "heads", "(II)J"⟩, prog_1_method_23_code, 3, (some .long), 0, 2, 2, 1)
set_option maxRecDepth 30000 in
theorem xm124 : mokE xe124 := Or.inr ⟨List.mem_of_getElem? (i := 869) rfl, ⟨List.mem_of_getElem? (i := 78) (by decide +kernel), by decide +kernel, by decide +kernel, by decide +kernel⟩, by decide +kernel, Or.inr ⟨rfl, List.mem_of_getElem? (i := 867) (by decide +kernel), List.mem_of_getElem? (i := 868) (by decide +kernel)⟩⟩
def xe125 : xME := (⟨"OverInDinghy$Foretold", "balance", "(LOverInDinghy$Rows;III)I"⟩, prog_5_method_11_code, 8, (some .int), 4, 1, 4, 0)
set_option maxRecDepth 30000 in
theorem xm125 : mokE xe125 := Or.inr ⟨List.mem_of_getElem? (i := 872) rfl, ⟨List.mem_of_getElem? (i := 94) (by decide +kernel), by decide +kernel, by decide +kernel, by decide +kernel⟩, by decide +kernel, Or.inl ⟨rfl, List.mem_of_getElem? (i := 871) (by decide +kernel)⟩⟩
def xe126 : xME := (⟨"OverInDinghy", "image", "(I)J"⟩, prog_1_method_24_code, 2, (some .long), 0, 1, 1, 1)
set_option maxRecDepth 30000 in
theorem xm126 : mokE xe126 := Or.inr ⟨List.mem_of_getElem? (i := 877) rfl, ⟨List.mem_of_getElem? (i := 78) (by decide +kernel), by decide +kernel, by decide +kernel, by decide +kernel⟩, by decide +kernel, Or.inr ⟨rfl, List.mem_of_getElem? (i := 875) (by decide +kernel), List.mem_of_getElem? (i := 876) (by decide +kernel)⟩⟩
def xe127 : xME := (⟨"OverInDinghy", "imageOf", "(I)LOverInDinghy$Club;"⟩, prog_1_method_34_code, 2, (some (.object "OverInDinghy$Club")), 0, 0, 1, 1)
set_option maxRecDepth 30000 in
theorem xm127 : mokE xe127 := Or.inr ⟨List.mem_of_getElem? (i := 881) rfl, ⟨List.mem_of_getElem? (i := 78) (by decide +kernel), by decide +kernel, by decide +kernel, by decide +kernel⟩, by decide +kernel, Or.inr ⟨rfl, List.mem_of_getElem? (i := 880) (by decide +kernel), List.mem_of_getElem? (i := 26) (by decide +kernel)⟩⟩
def xe128 : xME := (⟨"OverInDinghy", "restore", "(I)J"⟩, prog_1_method_25_code, 2, (some .long), 0, 1, 1, 1)
set_option maxRecDepth 30000 in
theorem xm128 : mokE xe128 := Or.inr ⟨List.mem_of_getElem? (i := 885) rfl, ⟨List.mem_of_getElem? (i := 78) (by decide +kernel), by decide +kernel, by decide +kernel, by decide +kernel⟩, by decide +kernel, Or.inr ⟨rfl, List.mem_of_getElem? (i := 883) (by decide +kernel), List.mem_of_getElem? (i := 884) (by decide +kernel)⟩⟩
def xe129 : xME := (⟨"OverInDinghy", "kind", "(I)J"⟩, prog_1_method_26_code, 2, (some .long), 0, 1, 1, 1)
set_option maxRecDepth 30000 in
theorem xm129 : mokE xe129 := Or.inr ⟨List.mem_of_getElem? (i := 889) rfl, ⟨List.mem_of_getElem? (i := 78) (by decide +kernel), by decide +kernel, by decide +kernel, by decide +kernel⟩, by decide +kernel, Or.inr ⟨rfl, List.mem_of_getElem? (i := 887) (by decide +kernel), List.mem_of_getElem? (i := 888) (by decide +kernel)⟩⟩
def xe130 : xME := (⟨"OverInDinghy$Asks", "kindOf", "(I)I"⟩, prog_2_method_2_code, 1, (some .int), 1, 0, 1, 0)
set_option maxRecDepth 30000 in
theorem xm130 : mokE xe130 := Or.inr ⟨List.mem_of_getElem? (i := 892) rfl, ⟨List.mem_of_getElem? (i := 86) (by decide +kernel), by decide +kernel, by decide +kernel, by decide +kernel⟩, by decide +kernel, Or.inl ⟨rfl, List.mem_of_getElem? (i := 891) (by decide +kernel)⟩⟩
def xe131 : xME := (⟨"OverInDinghy", "as", "(II)J"⟩, prog_1_method_27_code, 3, (some .long), 0, 2, 2, 1)
set_option maxRecDepth 30000 in
theorem xm131 : mokE xe131 := Or.inr ⟨List.mem_of_getElem? (i := 896) rfl, ⟨List.mem_of_getElem? (i := 78) (by decide +kernel), by decide +kernel, by decide +kernel, by decide +kernel⟩, by decide +kernel, Or.inr ⟨rfl, List.mem_of_getElem? (i := 894) (by decide +kernel), List.mem_of_getElem? (i := 895) (by decide +kernel)⟩⟩
def xe132 : xME := (⟨"OverInDinghy$Asks", "isKind", "(I)Z"⟩, prog_2_method_3_code, 1, (some .boolean), 1, 0, 1, 0)
set_option maxRecDepth 30000 in
theorem xm132 : mokE xe132 := Or.inr ⟨List.mem_of_getElem? (i := 899) rfl, ⟨List.mem_of_getElem? (i := 86) (by decide +kernel), by decide +kernel, by decide +kernel, by decide +kernel⟩, by decide +kernel, Or.inl ⟨rfl, List.mem_of_getElem? (i := 898) (by decide +kernel)⟩⟩
def xe133 : xME := (⟨"OverInDinghy$Asks", "is", "(II)Z"⟩, prog_2_method_4_code, 4, (some .boolean), 1, 1, 2, 0)
set_option maxRecDepth 30000 in
theorem xm133 : mokE xe133 := Or.inr ⟨List.mem_of_getElem? (i := 902) rfl, ⟨List.mem_of_getElem? (i := 86) (by decide +kernel), by decide +kernel, by decide +kernel, by decide +kernel⟩, by decide +kernel, Or.inl ⟨rfl, List.mem_of_getElem? (i := 901) (by decide +kernel)⟩⟩
def xe134 : xME := (⟨"OverInDinghy", "ask", "(II)J"⟩, prog_1_method_28_code, 3, (some .long), 0, 10, 2, 1)
set_option maxRecDepth 30000 in
theorem xm134 : mokE xe134 := Or.inr ⟨List.mem_of_getElem? (i := 909) rfl, ⟨List.mem_of_getElem? (i := 78) (by decide +kernel), by decide +kernel, by decide +kernel, by decide +kernel⟩, by decide +kernel, Or.inr ⟨rfl, List.mem_of_getElem? (i := 907) (by decide +kernel), List.mem_of_getElem? (i := 908) (by decide +kernel)⟩⟩
def xe135 : xME := (⟨"OverInDinghy$Asks", "answer", "(LOverInDinghy$Club;II)J"⟩, prog_2_method_5_code, 4, (some .long), 1, 9, 3, 1)
set_option maxRecDepth 30000 in
theorem xm135 : mokE xe135 := Or.inr ⟨List.mem_of_getElem? (i := 913) rfl, ⟨List.mem_of_getElem? (i := 86) (by decide +kernel), by decide +kernel, by decide +kernel, by decide +kernel⟩, by decide +kernel, Or.inr ⟨rfl, List.mem_of_getElem? (i := 911) (by decide +kernel), List.mem_of_getElem? (i := 912) (by decide +kernel)⟩⟩
def xe136 : xME := (⟨"OverInDinghy$Asks", "bodyFor", "(II)I"⟩, prog_2_method_6_code, 5, (some .int), 1, 1, 2, 0)
set_option maxRecDepth 30000 in
theorem xm136 : mokE xe136 := Or.inr ⟨List.mem_of_getElem? (i := 917) rfl, ⟨List.mem_of_getElem? (i := 86) (by decide +kernel), by decide +kernel, by decide +kernel, by decide +kernel⟩, by decide +kernel, Or.inl ⟨rfl, List.mem_of_getElem? (i := 916) (by decide +kernel)⟩⟩
def xe137 : xME := (⟨"OverInDinghy$Asks", "begin", "(LOverInDinghy$Asks;ILOverInDinghy$Club;II)J"⟩, prog_2_method_7_code, 7, (some .long), 1, 8, 5, 0)
set_option maxRecDepth 30000 in
theorem xm137 : mokE xe137 := Or.inr ⟨List.mem_of_getElem? (i := 924) rfl, ⟨List.mem_of_getElem? (i := 86) (by decide +kernel), by decide +kernel, by decide +kernel, by decide +kernel⟩, by decide +kernel, Or.inl ⟨rfl, List.mem_of_getElem? (i := 923) (by decide +kernel)⟩⟩
def xe138 : xME := (⟨"OverInDinghy$Asks", "leave", "(I)V"⟩, prog_2_method_8_code, 2, none, 1, 0, 1, 1)
set_option maxRecDepth 30000 in
theorem xm138 : mokE xe138 := Or.inr ⟨List.mem_of_getElem? (i := 928) rfl, ⟨List.mem_of_getElem? (i := 86) (by decide +kernel), by decide +kernel, by decide +kernel, by decide +kernel⟩, by decide +kernel, Or.inr ⟨rfl, List.mem_of_getElem? (i := 927) (by decide +kernel), List.mem_of_getElem? (i := 27) (by decide +kernel)⟩⟩
def xe139 : xME := (⟨"OverInDinghy", "trace", "(I)I"⟩, prog_1_method_29_code, 2, (some .int), 0, 0, 1, 1)
set_option maxRecDepth 30000 in
theorem xm139 : mokE xe139 := Or.inr ⟨List.mem_of_getElem? (i := 935) rfl, ⟨List.mem_of_getElem? (i := 78) (by decide +kernel), by decide +kernel, by decide +kernel, by decide +kernel⟩, by decide +kernel, Or.inr ⟨rfl, List.mem_of_getElem? (i := 933) (by decide +kernel), List.mem_of_getElem? (i := 934) (by decide +kernel)⟩⟩
def xmt6 : List xME := [xe120, xe121, xe122, xe123, xe124, xe125, xe126, xe127, xe128, xe129, xe130, xe131, xe132, xe133, xe134, xe135, xe136, xe137, xe138, xe139]
theorem xmt6_ok : ∀ e ∈ xmt6, mokE e := List.forall_mem_cons.mpr ⟨xm120, List.forall_mem_cons.mpr ⟨xm121, List.forall_mem_cons.mpr ⟨xm122, List.forall_mem_cons.mpr ⟨xm123, List.forall_mem_cons.mpr ⟨xm124, List.forall_mem_cons.mpr ⟨xm125, List.forall_mem_cons.mpr ⟨xm126, List.forall_mem_cons.mpr ⟨xm127, List.forall_mem_cons.mpr ⟨xm128, List.forall_mem_cons.mpr ⟨xm129, List.forall_mem_cons.mpr ⟨xm130, List.forall_mem_cons.mpr ⟨xm131, List.forall_mem_cons.mpr ⟨xm132, List.forall_mem_cons.mpr ⟨xm133, List.forall_mem_cons.mpr ⟨xm134, List.forall_mem_cons.mpr ⟨xm135, List.forall_mem_cons.mpr ⟨xm136, List.forall_mem_cons.mpr ⟨xm137, List.forall_mem_cons.mpr ⟨xm138, List.forall_mem_cons.mpr ⟨xm139, fun _ h => absurd h List.not_mem_nil⟩⟩⟩⟩⟩⟩⟩⟩⟩⟩⟩⟩⟩⟩⟩⟩⟩⟩⟩⟩
def xe140 : xME := (⟨"OverInDinghy", "count", "(I)J"⟩, prog_1_method_30_code, 2, (some .long), 0, 2, 1, 1)
set_option maxRecDepth 30000 in
theorem xm140 : mokE xe140 := Or.inr ⟨List.mem_of_getElem? (i := 940) rfl, ⟨List.mem_of_getElem? (i := 78) (by decide +kernel), by decide +kernel, by decide +kernel, by decide +kernel⟩, by decide +kernel, Or.inr ⟨rfl, List.mem_of_getElem? (i := 938) (by decide +kernel), List.mem_of_getElem? (i := 939) (by decide +kernel)⟩⟩
def xe141 : xME := (⟨"OverInDinghy$Rows", "present", "()I"⟩, prog_9_method_10_code, 3, (some .int), 8, 1, 0, 1)
set_option maxRecDepth 30000 in
theorem xm141 : mokE xe141 := Or.inr ⟨List.mem_of_getElem? (i := 944) rfl, ⟨List.mem_of_getElem? (i := 79) (by decide +kernel), by decide +kernel, by decide +kernel, by decide +kernel⟩, by decide +kernel, Or.inr ⟨rfl, List.mem_of_getElem? (i := 942) (by decide +kernel), List.mem_of_getElem? (i := 943) (by decide +kernel)⟩⟩
def xe142 : xME := (⟨"OverInDinghy$Club", "handsWhoCannot", "()I"⟩, prog_3_method_18_code, 3, (some .int), 2, 1, 0, 1)
set_option maxRecDepth 30000 in
theorem xm142 : mokE xe142 := Or.inr ⟨List.mem_of_getElem? (i := 949) rfl, ⟨List.mem_of_getElem? (i := 82) (by decide +kernel), by decide +kernel, by decide +kernel, by decide +kernel⟩, by decide +kernel, Or.inr ⟨rfl, List.mem_of_getElem? (i := 947) (by decide +kernel), List.mem_of_getElem? (i := 948) (by decide +kernel)⟩⟩
def xe143 : xME := (⟨"OverInDinghy$Club", "boatsOver", "()I"⟩, prog_3_method_19_code, 3, (some .int), 2, 1, 0, 1)
set_option maxRecDepth 30000 in
theorem xm143 : mokE xe143 := Or.inr ⟨List.mem_of_getElem? (i := 954) rfl, ⟨List.mem_of_getElem? (i := 82) (by decide +kernel), by decide +kernel, by decide +kernel, by decide +kernel⟩, by decide +kernel, Or.inr ⟨rfl, List.mem_of_getElem? (i := 952) (by decide +kernel), List.mem_of_getElem? (i := 953) (by decide +kernel)⟩⟩
def xe144 : xME := (⟨"OverInDinghy", "status", "()I"⟩, prog_1_method_31_code, 1, (some .int), 0, 0, 0, 1)
set_option maxRecDepth 30000 in
theorem xm144 : mokE xe144 := Or.inr ⟨List.mem_of_getElem? (i := 959) rfl, ⟨List.mem_of_getElem? (i := 78) (by decide +kernel), by decide +kernel, by decide +kernel, by decide +kernel⟩, by decide +kernel, Or.inr ⟨rfl, List.mem_of_getElem? (i := 957) (by decide +kernel), List.mem_of_getElem? (i := 958) (by decide +kernel)⟩⟩
def xe145 : xME := (⟨"OverInDinghyModel", "<init>", "()V"⟩, prog_12_method_1_code, 1, none, 10, 0, 0, 2)
theorem xm145 : mokE xe145 := Or.inl rfl
def xe146 : xME := (⟨"OverInDinghyModel", "row", "(III)J"⟩, prog_12_method_6_code, 5, (some .long), 10, 2, 3, 1)
set_option maxRecDepth 30000 in
theorem xm146 : mokE xe146 := Or.inr ⟨List.mem_of_getElem? (i := 1067) rfl, ⟨List.mem_of_getElem? (i := 87) (by decide +kernel), by decide +kernel, by decide +kernel, by decide +kernel⟩, by decide +kernel, Or.inr ⟨rfl, List.mem_of_getElem? (i := 1065) (by decide +kernel), List.mem_of_getElem? (i := 1066) (by decide +kernel)⟩⟩
def xe147 : xME := (⟨"OverInDinghyModel", "isRow", "(I)Z"⟩, prog_12_method_5_code, 1, (some .boolean), 10, 1, 1, 0)
set_option maxRecDepth 30000 in
theorem xm147 : mokE xe147 := Or.inr ⟨List.mem_of_getElem? (i := 1070) rfl, ⟨List.mem_of_getElem? (i := 87) (by decide +kernel), by decide +kernel, by decide +kernel, by decide +kernel⟩, by decide +kernel, Or.inl ⟨rfl, List.mem_of_getElem? (i := 1069) (by decide +kernel)⟩⟩
def xe148 : xME := (⟨"OverInDinghyModel", "in", "(JJJ)Z"⟩, prog_12_method_3_code, 6, (some .boolean), 10, 0, 3, 0)
set_option maxRecDepth 30000 in
theorem xm148 : mokE xe148 := Or.inr ⟨List.mem_of_getElem? (i := 1074) rfl, ⟨List.mem_of_getElem? (i := 87) (by decide +kernel), by decide +kernel, by decide +kernel, by decide +kernel⟩, by decide +kernel, Or.inl ⟨rfl, List.mem_of_getElem? (i := 1073) (by decide +kernel)⟩⟩
def xe149 : xME := (⟨"OverInDinghyModel", "finding", "(I)J"⟩, prog_12_method_4_code, 2, (some .long), 10, 0, 1, 1)
set_option maxRecDepth 30000 in
theorem xm149 : mokE xe149 := Or.inr ⟨List.mem_of_getElem? (i := 1080) rfl, ⟨List.mem_of_getElem? (i := 87) (by decide +kernel), by decide +kernel, by decide +kernel, by decide +kernel⟩, by decide +kernel, Or.inr ⟨rfl, List.mem_of_getElem? (i := 1079) (by decide +kernel), List.mem_of_getElem? (i := 28) (by decide +kernel)⟩⟩
def xe150 : xME := (⟨"OverInDinghyModel", "set", "(III)J"⟩, prog_12_method_7_code, 4, (some .long), 10, 2, 3, 1)
set_option maxRecDepth 30000 in
theorem xm150 : mokE xe150 := Or.inr ⟨List.mem_of_getElem? (i := 1085) rfl, ⟨List.mem_of_getElem? (i := 87) (by decide +kernel), by decide +kernel, by decide +kernel, by decide +kernel⟩, by decide +kernel, Or.inr ⟨rfl, List.mem_of_getElem? (i := 1083) (by decide +kernel), List.mem_of_getElem? (i := 1084) (by decide +kernel)⟩⟩
def xe151 : xME := (⟨"OverInDinghyModel", "copy", "(IIIII)J"⟩, prog_12_method_8_code, 9, (some .long), 10, 2, 5, 1)
set_option maxRecDepth 30000 in
theorem xm151 : mokE xe151 := Or.inr ⟨List.mem_of_getElem? (i := 1089) rfl, ⟨List.mem_of_getElem? (i := 87) (by decide +kernel), by decide +kernel, by decide +kernel, by decide +kernel⟩, by decide +kernel, Or.inr ⟨rfl, List.mem_of_getElem? (i := 1087) (by decide +kernel), List.mem_of_getElem? (i := 1088) (by decide +kernel)⟩⟩
def xe152 : xME := (⟨"OverInDinghyModel", "drop", "(I)J"⟩, prog_12_method_9_code, 2, (some .long), 10, 2, 1, 1)
set_option maxRecDepth 30000 in
theorem xm152 : mokE xe152 := Or.inr ⟨List.mem_of_getElem? (i := 1093) rfl, ⟨List.mem_of_getElem? (i := 87) (by decide +kernel), by decide +kernel, by decide +kernel, by decide +kernel⟩, by decide +kernel, Or.inr ⟨rfl, List.mem_of_getElem? (i := 1091) (by decide +kernel), List.mem_of_getElem? (i := 1092) (by decide +kernel)⟩⟩
def xe153 : xME := (⟨"OverInDinghyModel", "feed", "(JI)J"⟩, prog_12_method_10_code, 5, (some .long), 10, 1, 2, 1)
set_option maxRecDepth 30000 in
theorem xm153 : mokE xe153 := Or.inr ⟨List.mem_of_getElem? (i := 1097) rfl, ⟨List.mem_of_getElem? (i := 87) (by decide +kernel), by decide +kernel, by decide +kernel, by decide +kernel⟩, by decide +kernel, Or.inr ⟨rfl, List.mem_of_getElem? (i := 1095) (by decide +kernel), List.mem_of_getElem? (i := 1096) (by decide +kernel)⟩⟩
def xe154 : xME := (⟨"OverInDinghyModel", "club", "()J"⟩, prog_12_method_26_code, 2, (some .long), 10, 5, 0, 1)
set_option maxRecDepth 30000 in
theorem xm154 : mokE xe154 := Or.inr ⟨List.mem_of_getElem? (i := 1104) rfl, ⟨List.mem_of_getElem? (i := 87) (by decide +kernel), by decide +kernel, by decide +kernel, by decide +kernel⟩, by decide +kernel, Or.inr ⟨rfl, List.mem_of_getElem? (i := 1102) (by decide +kernel), List.mem_of_getElem? (i := 1103) (by decide +kernel)⟩⟩
def xe155 : xME := (⟨"OverInDinghyModel", "next", "()V"⟩, prog_12_method_14_code, 2, none, 10, 1, 0, 1)
set_option maxRecDepth 30000 in
theorem xm155 : mokE xe155 := Or.inr ⟨List.mem_of_getElem? (i := 1108) rfl, ⟨List.mem_of_getElem? (i := 87) (by decide +kernel), by decide +kernel, by decide +kernel, by decide +kernel⟩, by decide +kernel, Or.inr ⟨rfl, List.mem_of_getElem? (i := 1107) (by decide +kernel), List.mem_of_getElem? (i := 29) (by decide +kernel)⟩⟩
def xe156 : xME := (⟨"OverInDinghyModel", "byteAt", "(I)I"⟩, prog_12_method_11_code, 2, (some .int), 10, 0, 1, 1)
set_option maxRecDepth 30000 in
theorem xm156 : mokE xe156 := Or.inr ⟨List.mem_of_getElem? (i := 1112) rfl, ⟨List.mem_of_getElem? (i := 87) (by decide +kernel), by decide +kernel, by decide +kernel, by decide +kernel⟩, by decide +kernel, Or.inr ⟨rfl, List.mem_of_getElem? (i := 1111) (by decide +kernel), List.mem_of_getElem? (i := 30) (by decide +kernel)⟩⟩
def xe157 : xME := (⟨"OverInDinghyModel", "isLetter", "(I)Z"⟩, prog_12_method_12_code, 1, (some .boolean), 10, 0, 1, 0)
set_option maxRecDepth 30000 in
theorem xm157 : mokE xe157 := Or.inr ⟨List.mem_of_getElem? (i := 1116) rfl, ⟨List.mem_of_getElem? (i := 87) (by decide +kernel), by decide +kernel, by decide +kernel, by decide +kernel⟩, by decide +kernel, Or.inl ⟨rfl, List.mem_of_getElem? (i := 1115) (by decide +kernel)⟩⟩
def xe158 : xME := (⟨"OverInDinghyModel", "isFigure", "(I)Z"⟩, prog_12_method_13_code, 1, (some .boolean), 10, 0, 1, 0)
set_option maxRecDepth 30000 in
theorem xm158 : mokE xe158 := Or.inr ⟨List.mem_of_getElem? (i := 1119) rfl, ⟨List.mem_of_getElem? (i := 87) (by decide +kernel), by decide +kernel, by decide +kernel, by decide +kernel⟩, by decide +kernel, Or.inl ⟨rfl, List.mem_of_getElem? (i := 1118) (by decide +kernel)⟩⟩
def xe159 : xME := (⟨"OverInDinghyModel", "readSea", "()V"⟩, prog_12_method_22_code, 1, none, 10, 4, 0, 1)
set_option maxRecDepth 30000 in
theorem xm159 : mokE xe159 := Or.inr ⟨List.mem_of_getElem? (i := 1123) rfl, ⟨List.mem_of_getElem? (i := 87) (by decide +kernel), by decide +kernel, by decide +kernel, by decide +kernel⟩, by decide +kernel, Or.inr ⟨rfl, List.mem_of_getElem? (i := 1122) (by decide +kernel), List.mem_of_getElem? (i := 31) (by decide +kernel)⟩⟩
def xmt7 : List xME := [xe140, xe141, xe142, xe143, xe144, xe145, xe146, xe147, xe148, xe149, xe150, xe151, xe152, xe153, xe154, xe155, xe156, xe157, xe158, xe159]
theorem xmt7_ok : ∀ e ∈ xmt7, mokE e := List.forall_mem_cons.mpr ⟨xm140, List.forall_mem_cons.mpr ⟨xm141, List.forall_mem_cons.mpr ⟨xm142, List.forall_mem_cons.mpr ⟨xm143, List.forall_mem_cons.mpr ⟨xm144, List.forall_mem_cons.mpr ⟨xm145, List.forall_mem_cons.mpr ⟨xm146, List.forall_mem_cons.mpr ⟨xm147, List.forall_mem_cons.mpr ⟨xm148, List.forall_mem_cons.mpr ⟨xm149, List.forall_mem_cons.mpr ⟨xm150, List.forall_mem_cons.mpr ⟨xm151, List.forall_mem_cons.mpr ⟨xm152, List.forall_mem_cons.mpr ⟨xm153, List.forall_mem_cons.mpr ⟨xm154, List.forall_mem_cons.mpr ⟨xm155, List.forall_mem_cons.mpr ⟨xm156, List.forall_mem_cons.mpr ⟨xm157, List.forall_mem_cons.mpr ⟨xm158, List.forall_mem_cons.mpr ⟨xm159, fun _ h => absurd h List.not_mem_nil⟩⟩⟩⟩⟩⟩⟩⟩⟩⟩⟩⟩⟩⟩⟩⟩⟩⟩⟩⟩
def xe160 : xME := (⟨"OverInDinghyModel", "word", "()J"⟩, prog_12_method_17_code, 4, (some .long), 10, 0, 0, 1)
set_option maxRecDepth 30000 in
theorem xm160 : mokE xe160 := Or.inr ⟨List.mem_of_getElem? (i := 1127) rfl, ⟨List.mem_of_getElem? (i := 87) (by decide +kernel), by decide +kernel, by decide +kernel, by decide +kernel⟩, by decide +kernel, Or.inr ⟨rfl, List.mem_of_getElem? (i := 1126) (by decide +kernel), List.mem_of_getElem? (i := 32) (by decide +kernel)⟩⟩
def xe161 : xME := (⟨"OverInDinghyModel", "must", "(Z)V"⟩, prog_12_method_16_code, 2, none, 10, 2, 1, 1)
set_option maxRecDepth 30000 in
theorem xm161 : mokE xe161 := Or.inr ⟨List.mem_of_getElem? (i := 1132) rfl, ⟨List.mem_of_getElem? (i := 87) (by decide +kernel), by decide +kernel, by decide +kernel, by decide +kernel⟩, by decide +kernel, Or.inr ⟨rfl, List.mem_of_getElem? (i := 1131) (by decide +kernel), List.mem_of_getElem? (i := 33) (by decide +kernel)⟩⟩
def xe162 : xME := (⟨"OverInDinghyModel", "bad", "(I)V"⟩, prog_12_method_15_code, 2, none, 10, 0, 1, 1)
set_option maxRecDepth 30000 in
theorem xm162 : mokE xe162 := Or.inr ⟨List.mem_of_getElem? (i := 1136) rfl, ⟨List.mem_of_getElem? (i := 87) (by decide +kernel), by decide +kernel, by decide +kernel, by decide +kernel⟩, by decide +kernel, Or.inr ⟨rfl, List.mem_of_getElem? (i := 1135) (by decide +kernel), List.mem_of_getElem? (i := 34) (by decide +kernel)⟩⟩
def xe163 : xME := (⟨"OverInDinghyModel", "number", "(II)I"⟩, prog_12_method_19_code, 4, (some .int), 10, 3, 2, 1)
set_option maxRecDepth 30000 in
theorem xm163 : mokE xe163 := Or.inr ⟨List.mem_of_getElem? (i := 1140) rfl, ⟨List.mem_of_getElem? (i := 87) (by decide +kernel), by decide +kernel, by decide +kernel, by decide +kernel⟩, by decide +kernel, Or.inr ⟨rfl, List.mem_of_getElem? (i := 1139) (by decide +kernel), List.mem_of_getElem? (i := 35) (by decide +kernel)⟩⟩
def xe164 : xME := (⟨"OverInDinghyModel", "figures", "()I"⟩, prog_12_method_18_code, 3, (some .int), 10, 0, 0, 1)
set_option maxRecDepth 30000 in
theorem xm164 : mokE xe164 := Or.inr ⟨List.mem_of_getElem? (i := 1144) rfl, ⟨List.mem_of_getElem? (i := 87) (by decide +kernel), by decide +kernel, by decide +kernel, by decide +kernel⟩, by decide +kernel, Or.inr ⟨rfl, List.mem_of_getElem? (i := 1143) (by decide +kernel), List.mem_of_getElem? (i := 36) (by decide +kernel)⟩⟩
def xe165 : xME := (⟨"OverInDinghyModel", "mustEnd", "()V"⟩, prog_12_method_20_code, 1, none, 10, 3, 0, 1)
set_option maxRecDepth 30000 in
theorem xm165 : mokE xe165 := Or.inr ⟨List.mem_of_getElem? (i := 1149) rfl, ⟨List.mem_of_getElem? (i := 87) (by decide +kernel), by decide +kernel, by decide +kernel, by decide +kernel⟩, by decide +kernel, Or.inr ⟨rfl, List.mem_of_getElem? (i := 1148) (by decide +kernel), List.mem_of_getElem? (i := 37) (by decide +kernel)⟩⟩
def xe166 : xME := (⟨"OverInDinghyModel", "readBoat", "()V"⟩, prog_12_method_23_code, 6, none, 10, 4, 0, 1)
set_option maxRecDepth 30000 in
theorem xm166 : mokE xe166 := Or.inr ⟨List.mem_of_getElem? (i := 1154) rfl, ⟨List.mem_of_getElem? (i := 87) (by decide +kernel), by decide +kernel, by decide +kernel, by decide +kernel⟩, by decide +kernel, Or.inr ⟨rfl, List.mem_of_getElem? (i := 1153) (by decide +kernel), List.mem_of_getElem? (i := 38) (by decide +kernel)⟩⟩
def xe167 : xME := (⟨"OverInDinghyModel", "begins", "(II)V"⟩, prog_12_method_21_code, 3, none, 10, 3, 2, 1)
set_option maxRecDepth 30000 in
theorem xm167 : mokE xe167 := Or.inr ⟨List.mem_of_getElem? (i := 1158) rfl, ⟨List.mem_of_getElem? (i := 87) (by decide +kernel), by decide +kernel, by decide +kernel, by decide +kernel⟩, by decide +kernel, Or.inr ⟨rfl, List.mem_of_getElem? (i := 1157) (by decide +kernel), List.mem_of_getElem? (i := 39) (by decide +kernel)⟩⟩
def xe168 : xME := (⟨"OverInDinghyModel", "readHand", "()V"⟩, prog_12_method_25_code, 5, none, 10, 4, 0, 1)
set_option maxRecDepth 30000 in
theorem xm168 : mokE xe168 := Or.inr ⟨List.mem_of_getElem? (i := 1163) rfl, ⟨List.mem_of_getElem? (i := 87) (by decide +kernel), by decide +kernel, by decide +kernel, by decide +kernel⟩, by decide +kernel, Or.inr ⟨rfl, List.mem_of_getElem? (i := 1162) (by decide +kernel), List.mem_of_getElem? (i := 40) (by decide +kernel)⟩⟩
def xe169 : xME := (⟨"OverInDinghyModel", "handsTold", "(I)I"⟩, prog_12_method_24_code, 4, (some .int), 10, 0, 1, 1)
set_option maxRecDepth 30000 in
theorem xm169 : mokE xe169 := Or.inr ⟨List.mem_of_getElem? (i := 1167) rfl, ⟨List.mem_of_getElem? (i := 87) (by decide +kernel), by decide +kernel, by decide +kernel, by decide +kernel⟩, by decide +kernel, Or.inr ⟨rfl, List.mem_of_getElem? (i := 1166) (by decide +kernel), List.mem_of_getElem? (i := 41) (by decide +kernel)⟩⟩
def xe170 : xME := (⟨"OverInDinghyModel", "fault", "()I"⟩, prog_12_method_27_code, 1, (some .int), 10, 0, 0, 1)
set_option maxRecDepth 30000 in
theorem xm170 : mokE xe170 := Or.inr ⟨List.mem_of_getElem? (i := 1172) rfl, ⟨List.mem_of_getElem? (i := 87) (by decide +kernel), by decide +kernel, by decide +kernel, by decide +kernel⟩, by decide +kernel, Or.inr ⟨rfl, List.mem_of_getElem? (i := 1170) (by decide +kernel), List.mem_of_getElem? (i := 1171) (by decide +kernel)⟩⟩
def xe171 : xME := (⟨"OverInDinghyModel", "place", "(II)J"⟩, prog_12_method_43_code, 3, (some .long), 10, 2, 2, 1)
set_option maxRecDepth 30000 in
theorem xm171 : mokE xe171 := Or.inr ⟨List.mem_of_getElem? (i := 1176) rfl, ⟨List.mem_of_getElem? (i := 87) (by decide +kernel), by decide +kernel, by decide +kernel, by decide +kernel⟩, by decide +kernel, Or.inr ⟨rfl, List.mem_of_getElem? (i := 1174) (by decide +kernel), List.mem_of_getElem? (i := 1175) (by decide +kernel)⟩⟩
def xe172 : xME := (⟨"OverInDinghyModel", "isHand", "(I)Z"⟩, prog_12_method_29_code, 2, (some .boolean), 10, 1, 1, 1)
set_option maxRecDepth 30000 in
theorem xm172 : mokE xe172 := Or.inr ⟨List.mem_of_getElem? (i := 1180) rfl, ⟨List.mem_of_getElem? (i := 87) (by decide +kernel), by decide +kernel, by decide +kernel, by decide +kernel⟩, by decide +kernel, Or.inr ⟨rfl, List.mem_of_getElem? (i := 1179) (by decide +kernel), List.mem_of_getElem? (i := 42) (by decide +kernel)⟩⟩
def xe173 : xME := (⟨"OverInDinghyModel", "can", "([II)Z"⟩, prog_12_method_32_code, 2, (some .boolean), 10, 0, 2, 0)
set_option maxRecDepth 30000 in
theorem xm173 : mokE xe173 := Or.inr ⟨List.mem_of_getElem? (i := 1184) rfl, ⟨List.mem_of_getElem? (i := 87) (by decide +kernel), by decide +kernel, by decide +kernel, by decide +kernel⟩, by decide +kernel, Or.inl ⟨rfl, List.mem_of_getElem? (i := 1183) (by decide +kernel)⟩⟩
def xe174 : xME := (⟨"OverInDinghyModel", "handOf", "(II)I"⟩, prog_12_method_31_code, 3, (some .int), 10, 0, 2, 1)
set_option maxRecDepth 30000 in
theorem xm174 : mokE xe174 := Or.inr ⟨List.mem_of_getElem? (i := 1188) rfl, ⟨List.mem_of_getElem? (i := 87) (by decide +kernel), by decide +kernel, by decide +kernel, by decide +kernel⟩, by decide +kernel, Or.inr ⟨rfl, List.mem_of_getElem? (i := 1187) (by decide +kernel), List.mem_of_getElem? (i := 43) (by decide +kernel)⟩⟩
def xe175 : xME := (⟨"OverInDinghyModel", "isUpright", "(I)Z"⟩, prog_12_method_42_code, 2, (some .boolean), 10, 0, 1, 1)
set_option maxRecDepth 30000 in
theorem xm175 : mokE xe175 := Or.inr ⟨List.mem_of_getElem? (i := 1192) rfl, ⟨List.mem_of_getElem? (i := 87) (by decide +kernel), by decide +kernel, by decide +kernel, by decide +kernel⟩, by decide +kernel, Or.inr ⟨rfl, List.mem_of_getElem? (i := 1191) (by decide +kernel), List.mem_of_getElem? (i := 44) (by decide +kernel)⟩⟩
def xe176 : xME := (⟨"OverInDinghyModel", "tip", "(I)J"⟩, prog_12_method_44_code, 2, (some .long), 10, 4, 1, 1)
set_option maxRecDepth 30000 in
theorem xm176 : mokE xe176 := Or.inr ⟨List.mem_of_getElem? (i := 1197) rfl, ⟨List.mem_of_getElem? (i := 87) (by decide +kernel), by decide +kernel, by decide +kernel, by decide +kernel⟩, by decide +kernel, Or.inr ⟨rfl, List.mem_of_getElem? (i := 1195) (by decide +kernel), List.mem_of_getElem? (i := 1196) (by decide +kernel)⟩⟩
def xe177 : xME := (⟨"OverInDinghyModel", "isBoat", "(I)Z"⟩, prog_12_method_28_code, 2, (some .boolean), 10, 1, 1, 1)
set_option maxRecDepth 30000 in
theorem xm177 : mokE xe177 := Or.inr ⟨List.mem_of_getElem? (i := 1201) rfl, ⟨List.mem_of_getElem? (i := 87) (by decide +kernel), by decide +kernel, by decide +kernel, by decide +kernel⟩, by decide +kernel, Or.inr ⟨rfl, List.mem_of_getElem? (i := 1200) (by decide +kernel), List.mem_of_getElem? (i := 45) (by decide +kernel)⟩⟩
def xe178 : xME := (⟨"OverInDinghyModel", "tips", "([II)V"⟩, prog_12_method_41_code, 3, none, 10, 3, 2, 1)
set_option maxRecDepth 30000 in
theorem xm178 : mokE xe178 := Or.inr ⟨List.mem_of_getElem? (i := 1205) rfl, ⟨List.mem_of_getElem? (i := 87) (by decide +kernel), by decide +kernel, by decide +kernel, by decide +kernel⟩, by decide +kernel, Or.inr ⟨rfl, List.mem_of_getElem? (i := 1204) (by decide +kernel), List.mem_of_getElem? (i := 46) (by decide +kernel)⟩⟩
def xe179 : xME := (⟨"OverInDinghyModel", "moveAll", "([IIII)V"⟩, prog_12_method_40_code, 6, none, 10, 2, 4, 1)
set_option maxRecDepth 30000 in
theorem xm179 : mokE xe179 := Or.inr ⟨List.mem_of_getElem? (i := 1209) rfl, ⟨List.mem_of_getElem? (i := 87) (by decide +kernel), by decide +kernel, by decide +kernel, by decide +kernel⟩, by decide +kernel, Or.inr ⟨rfl, List.mem_of_getElem? (i := 1208) (by decide +kernel), List.mem_of_getElem? (i := 47) (by decide +kernel)⟩⟩
def xmt8 : List xME := [xe160, xe161, xe162, xe163, xe164, xe165, xe166, xe167, xe168, xe169, xe170, xe171, xe172, xe173, xe174, xe175, xe176, xe177, xe178, xe179]
theorem xmt8_ok : ∀ e ∈ xmt8, mokE e := List.forall_mem_cons.mpr ⟨xm160, List.forall_mem_cons.mpr ⟨xm161, List.forall_mem_cons.mpr ⟨xm162, List.forall_mem_cons.mpr ⟨xm163, List.forall_mem_cons.mpr ⟨xm164, List.forall_mem_cons.mpr ⟨xm165, List.forall_mem_cons.mpr ⟨xm166, List.forall_mem_cons.mpr ⟨xm167, List.forall_mem_cons.mpr ⟨xm168, List.forall_mem_cons.mpr ⟨xm169, List.forall_mem_cons.mpr ⟨xm170, List.forall_mem_cons.mpr ⟨xm171, List.forall_mem_cons.mpr ⟨xm172, List.forall_mem_cons.mpr ⟨xm173, List.forall_mem_cons.mpr ⟨xm174, List.forall_mem_cons.mpr ⟨xm175, List.forall_mem_cons.mpr ⟨xm176, List.forall_mem_cons.mpr ⟨xm177, List.forall_mem_cons.mpr ⟨xm178, List.forall_mem_cons.mpr ⟨xm179, fun _ h => absurd h List.not_mem_nil⟩⟩⟩⟩⟩⟩⟩⟩⟩⟩⟩⟩⟩⟩⟩⟩⟩⟩⟩⟩
def xe180 : xME := (⟨"OverInDinghyModel", "isOf", "(II)Z"⟩, prog_12_method_34_code, 3, (some .boolean), 10, 1, 2, 1)
set_option maxRecDepth 30000 in
theorem xm180 : mokE xe180 := Or.inr ⟨List.mem_of_getElem? (i := 1213) rfl, ⟨List.mem_of_getElem? (i := 87) (by decide +kernel), by decide +kernel, by decide +kernel, by decide +kernel⟩, by decide +kernel, Or.inr ⟨rfl, List.mem_of_getElem? (i := 1212) (by decide +kernel), List.mem_of_getElem? (i := 48) (by decide +kernel)⟩⟩
def xe181 : xME := (⟨"OverInDinghyModel", "placeOf", "([II)I"⟩, prog_12_method_33_code, 2, (some .int), 10, 0, 2, 0)
set_option maxRecDepth 30000 in
theorem xm181 : mokE xe181 := Or.inr ⟨List.mem_of_getElem? (i := 1216) rfl, ⟨List.mem_of_getElem? (i := 87) (by decide +kernel), by decide +kernel, by decide +kernel, by decide +kernel⟩, by decide +kernel, Or.inl ⟨rfl, List.mem_of_getElem? (i := 1215) (by decide +kernel)⟩⟩
def xe182 : xME := (⟨"OverInDinghyModel", "go", "(II)J"⟩, prog_12_method_53_code, 5, (some .long), 10, 6, 2, 1)
set_option maxRecDepth 30000 in
theorem xm182 : mokE xe182 := Or.inr ⟨List.mem_of_getElem? (i := 1220) rfl, ⟨List.mem_of_getElem? (i := 87) (by decide +kernel), by decide +kernel, by decide +kernel, by decide +kernel⟩, by decide +kernel, Or.inr ⟨rfl, List.mem_of_getElem? (i := 1218) (by decide +kernel), List.mem_of_getElem? (i := 1219) (by decide +kernel)⟩⟩
def xe183 : xME := (⟨"OverInDinghyModel", "tick", "([IIZ)V"⟩, prog_12_method_52_code, 4, none, 10, 5, 3, 1)
set_option maxRecDepth 30000 in
theorem xm183 : mokE xe183 := Or.inr ⟨List.mem_of_getElem? (i := 1226) rfl, ⟨List.mem_of_getElem? (i := 87) (by decide +kernel), by decide +kernel, by decide +kernel, by decide +kernel⟩, by decide +kernel, Or.inr ⟨rfl, List.mem_of_getElem? (i := 1225) (by decide +kernel), List.mem_of_getElem? (i := 49) (by decide +kernel)⟩⟩
def xe184 : xME := (⟨"OverInDinghyModel", "goUpright", "([IIZ)V"⟩, prog_12_method_47_code, 7, none, 10, 4, 3, 1)
set_option maxRecDepth 30000 in
theorem xm184 : mokE xe184 := Or.inr ⟨List.mem_of_getElem? (i := 1230) rfl, ⟨List.mem_of_getElem? (i := 87) (by decide +kernel), by decide +kernel, by decide +kernel, by decide +kernel⟩, by decide +kernel, Or.inr ⟨rfl, List.mem_of_getElem? (i := 1229) (by decide +kernel), List.mem_of_getElem? (i := 50) (by decide +kernel)⟩⟩
def xe185 : xME := (⟨"OverInDinghyModel", "draw", "(I)I"⟩, prog_12_method_45_code, 2, (some .int), 10, 0, 1, 1)
set_option maxRecDepth 30000 in
theorem xm185 : mokE xe185 := Or.inr ⟨List.mem_of_getElem? (i := 1234) rfl, ⟨List.mem_of_getElem? (i := 87) (by decide +kernel), by decide +kernel, by decide +kernel, by decide +kernel⟩, by decide +kernel, Or.inr ⟨rfl, List.mem_of_getElem? (i := 1233) (by decide +kernel), List.mem_of_getElem? (i := 51) (by decide +kernel)⟩⟩
def xe186 : xME := (⟨"OverInDinghyModel", "boatOf", "(II)I"⟩, prog_12_method_30_code, 3, (some .int), 10, 0, 2, 1)
set_option maxRecDepth 30000 in
theorem xm186 : mokE xe186 := Or.inr ⟨List.mem_of_getElem? (i := 1240) rfl, ⟨List.mem_of_getElem? (i := 87) (by decide +kernel), by decide +kernel, by decide +kernel, by decide +kernel⟩, by decide +kernel, Or.inr ⟨rfl, List.mem_of_getElem? (i := 1239) (by decide +kernel), List.mem_of_getElem? (i := 52) (by decide +kernel)⟩⟩
def xe187 : xME := (⟨"OverInDinghyModel", "weightIn", "([II)I"⟩, prog_12_method_39_code, 5, (some .int), 10, 2, 2, 1)
set_option maxRecDepth 30000 in
theorem xm187 : mokE xe187 := Or.inr ⟨List.mem_of_getElem? (i := 1244) rfl, ⟨List.mem_of_getElem? (i := 87) (by decide +kernel), by decide +kernel, by decide +kernel, by decide +kernel⟩, by decide +kernel, Or.inr ⟨rfl, List.mem_of_getElem? (i := 1243) (by decide +kernel), List.mem_of_getElem? (i := 53) (by decide +kernel)⟩⟩
def xe188 : xME := (⟨"OverInDinghyModel", "bailers", "([II)I"⟩, prog_12_method_46_code, 5, (some .int), 10, 2, 2, 1)
set_option maxRecDepth 30000 in
theorem xm188 : mokE xe188 := Or.inr ⟨List.mem_of_getElem? (i := 1248) rfl, ⟨List.mem_of_getElem? (i := 87) (by decide +kernel), by decide +kernel, by decide +kernel, by decide +kernel⟩, by decide +kernel, Or.inr ⟨rfl, List.mem_of_getElem? (i := 1247) (by decide +kernel), List.mem_of_getElem? (i := 54) (by decide +kernel)⟩⟩
def xe189 : xME := (⟨"OverInDinghyModel", "goSided", "([IIZ)V"⟩, prog_12_method_48_code, 6, none, 10, 4, 3, 1)
set_option maxRecDepth 30000 in
theorem xm189 : mokE xe189 := Or.inr ⟨List.mem_of_getElem? (i := 1252) rfl, ⟨List.mem_of_getElem? (i := 87) (by decide +kernel), by decide +kernel, by decide +kernel, by decide +kernel⟩, by decide +kernel, Or.inr ⟨rfl, List.mem_of_getElem? (i := 1251) (by decide +kernel), List.mem_of_getElem? (i := 55) (by decide +kernel)⟩⟩
def xe190 : xME := (⟨"OverInDinghyModel", "needNow", "([II)I"⟩, prog_12_method_37_code, 3, (some .int), 10, 3, 2, 1)
set_option maxRecDepth 30000 in
theorem xm190 : mokE xe190 := Or.inr ⟨List.mem_of_getElem? (i := 1256) rfl, ⟨List.mem_of_getElem? (i := 87) (by decide +kernel), by decide +kernel, by decide +kernel, by decide +kernel⟩, by decide +kernel, Or.inr ⟨rfl, List.mem_of_getElem? (i := 1255) (by decide +kernel), List.mem_of_getElem? (i := 56) (by decide +kernel)⟩⟩
def xe191 : xME := (⟨"OverInDinghyModel", "hasBow", "([II)Z"⟩, prog_12_method_35_code, 5, (some .boolean), 10, 2, 2, 1)
set_option maxRecDepth 30000 in
theorem xm191 : mokE xe191 := Or.inr ⟨List.mem_of_getElem? (i := 1260) rfl, ⟨List.mem_of_getElem? (i := 87) (by decide +kernel), by decide +kernel, by decide +kernel, by decide +kernel⟩, by decide +kernel, Or.inr ⟨rfl, List.mem_of_getElem? (i := 1259) (by decide +kernel), List.mem_of_getElem? (i := 57) (by decide +kernel)⟩⟩
def xe192 : xME := (⟨"OverInDinghyModel", "need", "(IIZ)I"⟩, prog_12_method_36_code, 4, (some .int), 10, 1, 3, 1)
set_option maxRecDepth 30000 in
theorem xm192 : mokE xe192 := Or.inr ⟨List.mem_of_getElem? (i := 1264) rfl, ⟨List.mem_of_getElem? (i := 87) (by decide +kernel), by decide +kernel, by decide +kernel, by decide +kernel⟩, by decide +kernel, Or.inr ⟨rfl, List.mem_of_getElem? (i := 1263) (by decide +kernel), List.mem_of_getElem? (i := 58) (by decide +kernel)⟩⟩
def xe193 : xME := (⟨"OverInDinghyModel", "lever", "([II)I"⟩, prog_12_method_38_code, 5, (some .int), 10, 2, 2, 1)
set_option maxRecDepth 30000 in
theorem xm193 : mokE xe193 := Or.inr ⟨List.mem_of_getElem? (i := 1268) rfl, ⟨List.mem_of_getElem? (i := 87) (by decide +kernel), by decide +kernel, by decide +kernel, by decide +kernel⟩, by decide +kernel, Or.inr ⟨rfl, List.mem_of_getElem? (i := 1267) (by decide +kernel), List.mem_of_getElem? (i := 59) (by decide +kernel)⟩⟩
def xe194 : xME := (⟨"OverInDinghyModel", "goRound", "([II)V"⟩, prog_12_method_49_code, 5, none, 10, 4, 2, 1)
set_option maxRecDepth 30000 in
theorem xm194 : mokE xe194 := Or.inr ⟨List.mem_of_getElem? (i := 1272) rfl, ⟨List.mem_of_getElem? (i := 87) (by decide +kernel), by decide +kernel, by decide +kernel, by decide +kernel⟩, by decide +kernel, Or.inr ⟨rfl, List.mem_of_getElem? (i := 1271) (by decide +kernel), List.mem_of_getElem? (i := 60) (by decide +kernel)⟩⟩
def xe195 : xME := (⟨"OverInDinghyModel", "getsCold", "([II)V"⟩, prog_12_method_51_code, 5, none, 10, 2, 2, 1)
set_option maxRecDepth 30000 in
theorem xm195 : mokE xe195 := Or.inr ⟨List.mem_of_getElem? (i := 1276) rfl, ⟨List.mem_of_getElem? (i := 87) (by decide +kernel), by decide +kernel, by decide +kernel, by decide +kernel⟩, by decide +kernel, Or.inr ⟨rfl, List.mem_of_getElem? (i := 1275) (by decide +kernel), List.mem_of_getElem? (i := 61) (by decide +kernel)⟩⟩
def xe196 : xME := (⟨"OverInDinghyModel", "coldOf", "(I)I"⟩, prog_12_method_50_code, 3, (some .int), 10, 1, 1, 1)
set_option maxRecDepth 30000 in
theorem xm196 : mokE xe196 := Or.inr ⟨List.mem_of_getElem? (i := 1280) rfl, ⟨List.mem_of_getElem? (i := 87) (by decide +kernel), by decide +kernel, by decide +kernel, by decide +kernel⟩, by decide +kernel, Or.inr ⟨rfl, List.mem_of_getElem? (i := 1279) (by decide +kernel), List.mem_of_getElem? (i := 62) (by decide +kernel)⟩⟩
def xe197 : xME := (⟨"OverInDinghyModel", "boat", "(II)J"⟩, prog_12_method_54_code, 3, (some .long), 10, 4, 2, 1)
set_option maxRecDepth 30000 in
theorem xm197 : mokE xe197 := Or.inr ⟨List.mem_of_getElem? (i := 1284) rfl, ⟨List.mem_of_getElem? (i := 87) (by decide +kernel), by decide +kernel, by decide +kernel, by decide +kernel⟩, by decide +kernel, Or.inr ⟨rfl, List.mem_of_getElem? (i := 1282) (by decide +kernel), List.mem_of_getElem? (i := 1283) (by decide +kernel)⟩⟩
def xe198 : xME := (⟨"OverInDinghyModel", "hand", "(II)J"⟩, prog_12_method_55_code, 3, (some .long), 10, 2, 2, 1)
set_option maxRecDepth 30000 in
theorem xm198 : mokE xe198 := Or.inr ⟨List.mem_of_getElem? (i := 1288) rfl, ⟨List.mem_of_getElem? (i := 87) (by decide +kernel), by decide +kernel, by decide +kernel, by decide +kernel⟩, by decide +kernel, Or.inr ⟨rfl, List.mem_of_getElem? (i := 1286) (by decide +kernel), List.mem_of_getElem? (i := 1287) (by decide +kernel)⟩⟩
def xe199 : xME := (⟨"OverInDinghyModel", "rights", "(IIII)J"⟩, prog_12_method_57_code, 8, (some .long), 10, 3, 4, 1)
set_option maxRecDepth 30000 in
theorem xm199 : mokE xe199 := Or.inr ⟨List.mem_of_getElem? (i := 1292) rfl, ⟨List.mem_of_getElem? (i := 87) (by decide +kernel), by decide +kernel, by decide +kernel, by decide +kernel⟩, by decide +kernel, Or.inr ⟨rfl, List.mem_of_getElem? (i := 1290) (by decide +kernel), List.mem_of_getElem? (i := 1291) (by decide +kernel)⟩⟩
def xmt9 : List xME := [xe180, xe181, xe182, xe183, xe184, xe185, xe186, xe187, xe188, xe189, xe190, xe191, xe192, xe193, xe194, xe195, xe196, xe197, xe198, xe199]
theorem xmt9_ok : ∀ e ∈ xmt9, mokE e := List.forall_mem_cons.mpr ⟨xm180, List.forall_mem_cons.mpr ⟨xm181, List.forall_mem_cons.mpr ⟨xm182, List.forall_mem_cons.mpr ⟨xm183, List.forall_mem_cons.mpr ⟨xm184, List.forall_mem_cons.mpr ⟨xm185, List.forall_mem_cons.mpr ⟨xm186, List.forall_mem_cons.mpr ⟨xm187, List.forall_mem_cons.mpr ⟨xm188, List.forall_mem_cons.mpr ⟨xm189, List.forall_mem_cons.mpr ⟨xm190, List.forall_mem_cons.mpr ⟨xm191, List.forall_mem_cons.mpr ⟨xm192, List.forall_mem_cons.mpr ⟨xm193, List.forall_mem_cons.mpr ⟨xm194, List.forall_mem_cons.mpr ⟨xm195, List.forall_mem_cons.mpr ⟨xm196, List.forall_mem_cons.mpr ⟨xm197, List.forall_mem_cons.mpr ⟨xm198, List.forall_mem_cons.mpr ⟨xm199, fun _ h => absurd h List.not_mem_nil⟩⟩⟩⟩⟩⟩⟩⟩⟩⟩⟩⟩⟩⟩⟩⟩⟩⟩⟩⟩
def xe200 : xME := (⟨"OverInDinghyModel", "rightsBy", "(IIII)Z"⟩, prog_12_method_56_code, 7, (some .boolean), 10, 2, 4, 1)
set_option maxRecDepth 30000 in
theorem xm200 : mokE xe200 := Or.inr ⟨List.mem_of_getElem? (i := 1297) rfl, ⟨List.mem_of_getElem? (i := 87) (by decide +kernel), by decide +kernel, by decide +kernel, by decide +kernel⟩, by decide +kernel, Or.inr ⟨rfl, List.mem_of_getElem? (i := 1296) (by decide +kernel), List.mem_of_getElem? (i := 63) (by decide +kernel)⟩⟩
def xe201 : xME := (⟨"OverInDinghyModel", "lightest", "(I)J"⟩, prog_12_method_58_code, 3, (some .long), 10, 2, 1, 1)
set_option maxRecDepth 30000 in
theorem xm201 : mokE xe201 := Or.inr ⟨List.mem_of_getElem? (i := 1302) rfl, ⟨List.mem_of_getElem? (i := 87) (by decide +kernel), by decide +kernel, by decide +kernel, by decide +kernel⟩, by decide +kernel, Or.inr ⟨rfl, List.mem_of_getElem? (i := 1300) (by decide +kernel), List.mem_of_getElem? (i := 1301) (by decide +kernel)⟩⟩
def xe202 : xME := (⟨"OverInDinghyModel", "round", "(I)J"⟩, prog_12_method_59_code, 3, (some .long), 10, 2, 1, 1)
set_option maxRecDepth 30000 in
theorem xm202 : mokE xe202 := Or.inr ⟨List.mem_of_getElem? (i := 1306) rfl, ⟨List.mem_of_getElem? (i := 87) (by decide +kernel), by decide +kernel, by decide +kernel, by decide +kernel⟩, by decide +kernel, Or.inr ⟨rfl, List.mem_of_getElem? (i := 1304) (by decide +kernel), List.mem_of_getElem? (i := 1305) (by decide +kernel)⟩⟩
def xe203 : xME := (⟨"OverInDinghyModel", "quickest", "(II)J"⟩, prog_12_method_63_code, 5, (some .long), 10, 7, 2, 1)
set_option maxRecDepth 30000 in
theorem xm203 : mokE xe203 := Or.inr ⟨List.mem_of_getElem? (i := 1310) rfl, ⟨List.mem_of_getElem? (i := 87) (by decide +kernel), by decide +kernel, by decide +kernel, by decide +kernel⟩, by decide +kernel, Or.inr ⟨rfl, List.mem_of_getElem? (i := 1308) (by decide +kernel), List.mem_of_getElem? (i := 1309) (by decide +kernel)⟩⟩
def xe204 : xME := (⟨"OverInDinghyModel", "layTwo", "(I)Z"⟩, prog_12_method_62_code, 3, (some .boolean), 10, 2, 1, 1)
set_option maxRecDepth 30000 in
theorem xm204 : mokE xe204 := Or.inr ⟨List.mem_of_getElem? (i := 1314) rfl, ⟨List.mem_of_getElem? (i := 87) (by decide +kernel), by decide +kernel, by decide +kernel, by decide +kernel⟩, by decide +kernel, Or.inr ⟨rfl, List.mem_of_getElem? (i := 1313) (by decide +kernel), List.mem_of_getElem? (i := 64) (by decide +kernel)⟩⟩
def xe205 : xME := (⟨"OverInDinghyModel", "ticksBy", "(II)I"⟩, prog_12_method_61_code, 5, (some .int), 10, 6, 2, 1)
set_option maxRecDepth 30000 in
theorem xm205 : mokE xe205 := Or.inr ⟨List.mem_of_getElem? (i := 1318) rfl, ⟨List.mem_of_getElem? (i := 87) (by decide +kernel), by decide +kernel, by decide +kernel, by decide +kernel⟩, by decide +kernel, Or.inr ⟨rfl, List.mem_of_getElem? (i := 1317) (by decide +kernel), List.mem_of_getElem? (i := 65) (by decide +kernel)⟩⟩
def xe206 : xME := (⟨"OverInDinghyModel", "goesTo", "(III)V"⟩, prog_12_method_60_code, 5, none, 10, 1, 3, 1)
set_option maxRecDepth 30000 in
theorem xm206 : mokE xe206 := Or.inr ⟨List.mem_of_getElem? (i := 1322) rfl, ⟨List.mem_of_getElem? (i := 87) (by decide +kernel), by decide +kernel, by decide +kernel, by decide +kernel⟩, by decide +kernel, Or.inr ⟨rfl, List.mem_of_getElem? (i := 1321) (by decide +kernel), List.mem_of_getElem? (i := 66) (by decide +kernel)⟩⟩
def xe207 : xME := (⟨"OverInDinghyModel", "tries", "(II)J"⟩, prog_12_method_64_code, 5, (some .long), 10, 2, 2, 1)
set_option maxRecDepth 30000 in
theorem xm207 : mokE xe207 := Or.inr ⟨List.mem_of_getElem? (i := 1326) rfl, ⟨List.mem_of_getElem? (i := 87) (by decide +kernel), by decide +kernel, by decide +kernel, by decide +kernel⟩, by decide +kernel, Or.inr ⟨rfl, List.mem_of_getElem? (i := 1324) (by decide +kernel), List.mem_of_getElem? (i := 1325) (by decide +kernel)⟩⟩
def xe208 : xME := (⟨"OverInDinghyModel", "airs", "(I)J"⟩, prog_12_method_66_code, 7, (some .long), 10, 1, 1, 1)
set_option maxRecDepth 30000 in
theorem xm208 : mokE xe208 := Or.inr ⟨List.mem_of_getElem? (i := 1330) rfl, ⟨List.mem_of_getElem? (i := 87) (by decide +kernel), by decide +kernel, by decide +kernel, by decide +kernel⟩, by decide +kernel, Or.inr ⟨rfl, List.mem_of_getElem? (i := 1328) (by decide +kernel), List.mem_of_getElem? (i := 1329) (by decide +kernel)⟩⟩
def xe209 : xME := (⟨"OverInDinghyModel", "bails", "(II)I"⟩, prog_12_method_65_code, 3, (some .int), 10, 0, 2, 0)
set_option maxRecDepth 30000 in
theorem xm209 : mokE xe209 := Or.inr ⟨List.mem_of_getElem? (i := 1334) rfl, ⟨List.mem_of_getElem? (i := 87) (by decide +kernel), by decide +kernel, by decide +kernel, by decide +kernel⟩, by decide +kernel, Or.inl ⟨rfl, List.mem_of_getElem? (i := 1333) (by decide +kernel)⟩⟩
def xe210 : xME := (⟨"OverInDinghyModel", "first", "(IIII)J"⟩, prog_12_method_70_code, 10, (some .long), 10, 2, 4, 1)
set_option maxRecDepth 30000 in
theorem xm210 : mokE xe210 := Or.inr ⟨List.mem_of_getElem? (i := 1338) rfl, ⟨List.mem_of_getElem? (i := 87) (by decide +kernel), by decide +kernel, by decide +kernel, by decide +kernel⟩, by decide +kernel, Or.inr ⟨rfl, List.mem_of_getElem? (i := 1336) (by decide +kernel), List.mem_of_getElem? (i := 1337) (by decide +kernel)⟩⟩
def xe211 : xME := (⟨"OverInDinghyModel", "harmBy", "(III)I"⟩, prog_12_method_69_code, 6, (some .int), 10, 0, 3, 1)
set_option maxRecDepth 30000 in
theorem xm211 : mokE xe211 := Or.inr ⟨List.mem_of_getElem? (i := 1344) rfl, ⟨List.mem_of_getElem? (i := 87) (by decide +kernel), by decide +kernel, by decide +kernel, by decide +kernel⟩, by decide +kernel, Or.inr ⟨rfl, List.mem_of_getElem? (i := 1343) (by decide +kernel), List.mem_of_getElem? (i := 67) (by decide +kernel)⟩⟩
def xe212 : xME := (⟨"OverInDinghyModel", "nextOrder", "(I)Z"⟩, prog_12_method_67_code, 6, (some .boolean), 10, 1, 1, 1)
set_option maxRecDepth 30000 in
theorem xm212 : mokE xe212 := Or.inr ⟨List.mem_of_getElem? (i := 1348) rfl, ⟨List.mem_of_getElem? (i := 87) (by decide +kernel), by decide +kernel, by decide +kernel, by decide +kernel⟩, by decide +kernel, Or.inr ⟨rfl, List.mem_of_getElem? (i := 1347) (by decide +kernel), List.mem_of_getElem? (i := 68) (by decide +kernel)⟩⟩
def xe213 : xME := (⟨"OverInDinghyModel", "swap", "(II)V"⟩, prog_12_method_68_code, 4, none, 10, 0, 2, 1)
set_option maxRecDepth 30000 in
theorem xm213 : mokE xe213 := Or.inr ⟨List.mem_of_getElem? (i := 1352) rfl, ⟨List.mem_of_getElem? (i := 87) (by decide +kernel), by decide +kernel, by decide +kernel, by decide +kernel⟩, by decide +kernel, Or.inr ⟨rfl, List.mem_of_getElem? (i := 1351) (by decide +kernel), List.mem_of_getElem? (i := 69) (by decide +kernel)⟩⟩
def xe214 : xME := (⟨"OverInDinghyModel", "over", "(IIII)J"⟩, prog_12_method_75_code, 5, (some .long), 10, 2, 4, 1)
set_option maxRecDepth 30000 in
theorem xm214 : mokE xe214 := Or.inr ⟨List.mem_of_getElem? (i := 1356) rfl, ⟨List.mem_of_getElem? (i := 87) (by decide +kernel), by decide +kernel, by decide +kernel, by decide +kernel⟩, by decide +kernel, Or.inr ⟨rfl, List.mem_of_getElem? (i := 1354) (by decide +kernel), List.mem_of_getElem? (i := 1355) (by decide +kernel)⟩⟩
def xe215 : xME := (⟨"OverInDinghyModel", "areOver", "(II)Z"⟩, prog_12_method_74_code, 2, (some .boolean), 10, 1, 2, 0)
set_option maxRecDepth 30000 in
theorem xm215 : mokE xe215 := Or.inr ⟨List.mem_of_getElem? (i := 1359) rfl, ⟨List.mem_of_getElem? (i := 87) (by decide +kernel), by decide +kernel, by decide +kernel, by decide +kernel⟩, by decide +kernel, Or.inl ⟨rfl, List.mem_of_getElem? (i := 1358) (by decide +kernel)⟩⟩
def xe216 : xME := (⟨"OverInDinghyModel", "overWays", "(III)J"⟩, prog_12_method_72_code, 8, (some .long), 10, 1, 3, 0)
set_option maxRecDepth 30000 in
theorem xm216 : mokE xe216 := Or.inr ⟨List.mem_of_getElem? (i := 1362) rfl, ⟨List.mem_of_getElem? (i := 87) (by decide +kernel), by decide +kernel, by decide +kernel, by decide +kernel⟩, by decide +kernel, Or.inl ⟨rfl, List.mem_of_getElem? (i := 1361) (by decide +kernel)⟩⟩
def xe217 : xME := (⟨"OverInDinghyModel", "power", "(JI)J"⟩, prog_12_method_71_code, 6, (some .long), 10, 0, 2, 0)
set_option maxRecDepth 30000 in
theorem xm217 : mokE xe217 := Or.inr ⟨List.mem_of_getElem? (i := 1365) rfl, ⟨List.mem_of_getElem? (i := 87) (by decide +kernel), by decide +kernel, by decide +kernel, by decide +kernel⟩, by decide +kernel, Or.inl ⟨rfl, List.mem_of_getElem? (i := 1364) (by decide +kernel)⟩⟩
def xe218 : xME := (⟨"OverInDinghyModel", "partOf", "(JJI)J"⟩, prog_12_method_73_code, 11, (some .long), 10, 0, 3, 0)
set_option maxRecDepth 30000 in
theorem xm218 : mokE xe218 := Or.inr ⟨List.mem_of_getElem? (i := 1368) rfl, ⟨List.mem_of_getElem? (i := 87) (by decide +kernel), by decide +kernel, by decide +kernel, by decide +kernel⟩, by decide +kernel, Or.inl ⟨rfl, List.mem_of_getElem? (i := 1367) (by decide +kernel)⟩⟩
def xe219 : xME := (⟨"OverInDinghyModel", "staysIn", "(III)J"⟩, prog_12_method_76_code, 5, (some .long), 10, 2, 3, 1)
set_option maxRecDepth 30000 in
theorem xm219 : mokE xe219 := Or.inr ⟨List.mem_of_getElem? (i := 1372) rfl, ⟨List.mem_of_getElem? (i := 87) (by decide +kernel), by decide +kernel, by decide +kernel, by decide +kernel⟩, by decide +kernel, Or.inr ⟨rfl, List.mem_of_getElem? (i := 1370) (by decide +kernel), List.mem_of_getElem? (i := 1371) (by decide +kernel)⟩⟩
def xmt10 : List xME := [xe200, xe201, xe202, xe203, xe204, xe205, xe206, xe207, xe208, xe209, xe210, xe211, xe212, xe213, xe214, xe215, xe216, xe217, xe218, xe219]
theorem xmt10_ok : ∀ e ∈ xmt10, mokE e := List.forall_mem_cons.mpr ⟨xm200, List.forall_mem_cons.mpr ⟨xm201, List.forall_mem_cons.mpr ⟨xm202, List.forall_mem_cons.mpr ⟨xm203, List.forall_mem_cons.mpr ⟨xm204, List.forall_mem_cons.mpr ⟨xm205, List.forall_mem_cons.mpr ⟨xm206, List.forall_mem_cons.mpr ⟨xm207, List.forall_mem_cons.mpr ⟨xm208, List.forall_mem_cons.mpr ⟨xm209, List.forall_mem_cons.mpr ⟨xm210, List.forall_mem_cons.mpr ⟨xm211, List.forall_mem_cons.mpr ⟨xm212, List.forall_mem_cons.mpr ⟨xm213, List.forall_mem_cons.mpr ⟨xm214, List.forall_mem_cons.mpr ⟨xm215, List.forall_mem_cons.mpr ⟨xm216, List.forall_mem_cons.mpr ⟨xm217, List.forall_mem_cons.mpr ⟨xm218, List.forall_mem_cons.mpr ⟨xm219, fun _ h => absurd h List.not_mem_nil⟩⟩⟩⟩⟩⟩⟩⟩⟩⟩⟩⟩⟩⟩⟩⟩⟩⟩⟩⟩
def xe220 : xME := (⟨"OverInDinghyModel", "heads", "(II)J"⟩, prog_12_method_77_code, 8, (some .long), 10, 2, 2, 1)
set_option maxRecDepth 30000 in
theorem xm220 : mokE xe220 := Or.inr ⟨List.mem_of_getElem? (i := 1378) rfl, ⟨List.mem_of_getElem? (i := 87) (by decide +kernel), by decide +kernel, by decide +kernel, by decide +kernel⟩, by decide +kernel, Or.inr ⟨rfl, List.mem_of_getElem? (i := 1376) (by decide +kernel), List.mem_of_getElem? (i := 1377) (by decide +kernel)⟩⟩
def xe221 : xME := (⟨"OverInDinghyModel", "image", "(I)J"⟩, prog_12_method_78_code, 3, (some .long), 10, 1, 1, 1)
set_option maxRecDepth 30000 in
theorem xm221 : mokE xe221 := Or.inr ⟨List.mem_of_getElem? (i := 1383) rfl, ⟨List.mem_of_getElem? (i := 87) (by decide +kernel), by decide +kernel, by decide +kernel, by decide +kernel⟩, by decide +kernel, Or.inr ⟨rfl, List.mem_of_getElem? (i := 1381) (by decide +kernel), List.mem_of_getElem? (i := 1382) (by decide +kernel)⟩⟩
def xe222 : xME := (⟨"OverInDinghyModel", "restore", "(I)J"⟩, prog_12_method_79_code, 3, (some .long), 10, 1, 1, 1)
set_option maxRecDepth 30000 in
theorem xm222 : mokE xe222 := Or.inr ⟨List.mem_of_getElem? (i := 1387) rfl, ⟨List.mem_of_getElem? (i := 87) (by decide +kernel), by decide +kernel, by decide +kernel, by decide +kernel⟩, by decide +kernel, Or.inr ⟨rfl, List.mem_of_getElem? (i := 1385) (by decide +kernel), List.mem_of_getElem? (i := 1386) (by decide +kernel)⟩⟩
def xe223 : xME := (⟨"OverInDinghyModel", "kind", "(I)J"⟩, prog_12_method_82_code, 2, (some .long), 10, 2, 1, 1)
set_option maxRecDepth 30000 in
theorem xm223 : mokE xe223 := Or.inr ⟨List.mem_of_getElem? (i := 1391) rfl, ⟨List.mem_of_getElem? (i := 87) (by decide +kernel), by decide +kernel, by decide +kernel, by decide +kernel⟩, by decide +kernel, Or.inr ⟨rfl, List.mem_of_getElem? (i := 1389) (by decide +kernel), List.mem_of_getElem? (i := 1390) (by decide +kernel)⟩⟩
def xe224 : xME := (⟨"OverInDinghyModel", "kindOf", "(I)I"⟩, prog_12_method_81_code, 3, (some .int), 10, 0, 1, 1)
set_option maxRecDepth 30000 in
theorem xm224 : mokE xe224 := Or.inr ⟨List.mem_of_getElem? (i := 1395) rfl, ⟨List.mem_of_getElem? (i := 87) (by decide +kernel), by decide +kernel, by decide +kernel, by decide +kernel⟩, by decide +kernel, Or.inr ⟨rfl, List.mem_of_getElem? (i := 1394) (by decide +kernel), List.mem_of_getElem? (i := 70) (by decide +kernel)⟩⟩
def xe225 : xME := (⟨"OverInDinghyModel", "as", "(II)J"⟩, prog_12_method_83_code, 3, (some .long), 10, 2, 2, 1)
set_option maxRecDepth 30000 in
theorem xm225 : mokE xe225 := Or.inr ⟨List.mem_of_getElem? (i := 1399) rfl, ⟨List.mem_of_getElem? (i := 87) (by decide +kernel), by decide +kernel, by decide +kernel, by decide +kernel⟩, by decide +kernel, Or.inr ⟨rfl, List.mem_of_getElem? (i := 1397) (by decide +kernel), List.mem_of_getElem? (i := 1398) (by decide +kernel)⟩⟩
def xe226 : xME := (⟨"OverInDinghyModel", "isKindOf", "(II)Z"⟩, prog_12_method_80_code, 2, (some .boolean), 10, 0, 2, 0)
set_option maxRecDepth 30000 in
theorem xm226 : mokE xe226 := Or.inr ⟨List.mem_of_getElem? (i := 1403) rfl, ⟨List.mem_of_getElem? (i := 87) (by decide +kernel), by decide +kernel, by decide +kernel, by decide +kernel⟩, by decide +kernel, Or.inl ⟨rfl, List.mem_of_getElem? (i := 1402) (by decide +kernel)⟩⟩
def xe227 : xME := (⟨"OverInDinghyModel", "ask", "(II)J"⟩, prog_12_method_90_code, 4, (some .long), 10, 4, 2, 1)
set_option maxRecDepth 30000 in
theorem xm227 : mokE xe227 := Or.inr ⟨List.mem_of_getElem? (i := 1407) rfl, ⟨List.mem_of_getElem? (i := 87) (by decide +kernel), by decide +kernel, by decide +kernel, by decide +kernel⟩, by decide +kernel, Or.inr ⟨rfl, List.mem_of_getElem? (i := 1405) (by decide +kernel), List.mem_of_getElem? (i := 1406) (by decide +kernel)⟩⟩
def xe228 : xME := (⟨"OverInDinghyModel", "lyingSize", "(II)I"⟩, prog_12_method_87_code, 4, (some .int), 10, 2, 2, 1)
set_option maxRecDepth 30000 in
theorem xm228 : mokE xe228 := Or.inr ⟨List.mem_of_getElem? (i := 1411) rfl, ⟨List.mem_of_getElem? (i := 87) (by decide +kernel), by decide +kernel, by decide +kernel, by decide +kernel⟩, by decide +kernel, Or.inr ⟨rfl, List.mem_of_getElem? (i := 1410) (by decide +kernel), List.mem_of_getElem? (i := 71) (by decide +kernel)⟩⟩
def xe229 : xME := (⟨"OverInDinghyModel", "began", "(I)V"⟩, prog_12_method_84_code, 2, none, 10, 0, 1, 1)
set_option maxRecDepth 30000 in
theorem xm229 : mokE xe229 := Or.inr ⟨List.mem_of_getElem? (i := 1415) rfl, ⟨List.mem_of_getElem? (i := 87) (by decide +kernel), by decide +kernel, by decide +kernel, by decide +kernel⟩, by decide +kernel, Or.inr ⟨rfl, List.mem_of_getElem? (i := 1414) (by decide +kernel), List.mem_of_getElem? (i := 72) (by decide +kernel)⟩⟩
def xe230 : xME := (⟨"OverInDinghyModel", "plainSize", "(I)I"⟩, prog_12_method_85_code, 2, (some .int), 10, 1, 1, 1)
set_option maxRecDepth 30000 in
theorem xm230 : mokE xe230 := Or.inr ⟨List.mem_of_getElem? (i := 1419) rfl, ⟨List.mem_of_getElem? (i := 87) (by decide +kernel), by decide +kernel, by decide +kernel, by decide +kernel⟩, by decide +kernel, Or.inr ⟨rfl, List.mem_of_getElem? (i := 1418) (by decide +kernel), List.mem_of_getElem? (i := 73) (by decide +kernel)⟩⟩
def xe231 : xME := (⟨"OverInDinghyModel", "lyingMark", "(II)I"⟩, prog_12_method_86_code, 3, (some .int), 10, 1, 2, 1)
set_option maxRecDepth 30000 in
theorem xm231 : mokE xe231 := Or.inr ⟨List.mem_of_getElem? (i := 1423) rfl, ⟨List.mem_of_getElem? (i := 87) (by decide +kernel), by decide +kernel, by decide +kernel, by decide +kernel⟩, by decide +kernel, Or.inr ⟨rfl, List.mem_of_getElem? (i := 1422) (by decide +kernel), List.mem_of_getElem? (i := 74) (by decide +kernel)⟩⟩
def xe232 : xME := (⟨"OverInDinghyModel", "otherSize", "(II)I"⟩, prog_12_method_88_code, 3, (some .int), 10, 2, 2, 1)
set_option maxRecDepth 30000 in
theorem xm232 : mokE xe232 := Or.inr ⟨List.mem_of_getElem? (i := 1427) rfl, ⟨List.mem_of_getElem? (i := 87) (by decide +kernel), by decide +kernel, by decide +kernel, by decide +kernel⟩, by decide +kernel, Or.inr ⟨rfl, List.mem_of_getElem? (i := 1426) (by decide +kernel), List.mem_of_getElem? (i := 75) (by decide +kernel)⟩⟩
def xe233 : xME := (⟨"OverInDinghyModel", "otherMark", "(II)I"⟩, prog_12_method_89_code, 4, (some .int), 10, 3, 2, 1)
set_option maxRecDepth 30000 in
theorem xm233 : mokE xe233 := Or.inr ⟨List.mem_of_getElem? (i := 1431) rfl, ⟨List.mem_of_getElem? (i := 87) (by decide +kernel), by decide +kernel, by decide +kernel, by decide +kernel⟩, by decide +kernel, Or.inr ⟨rfl, List.mem_of_getElem? (i := 1430) (by decide +kernel), List.mem_of_getElem? (i := 76) (by decide +kernel)⟩⟩
def xe234 : xME := (⟨"OverInDinghyModel", "trace", "(I)I"⟩, prog_12_method_91_code, 2, (some .int), 10, 1, 1, 1)
set_option maxRecDepth 30000 in
theorem xm234 : mokE xe234 := Or.inr ⟨List.mem_of_getElem? (i := 1435) rfl, ⟨List.mem_of_getElem? (i := 87) (by decide +kernel), by decide +kernel, by decide +kernel, by decide +kernel⟩, by decide +kernel, Or.inr ⟨rfl, List.mem_of_getElem? (i := 1433) (by decide +kernel), List.mem_of_getElem? (i := 1434) (by decide +kernel)⟩⟩
def xe235 : xME := (⟨"OverInDinghyModel", "count", "(I)J"⟩, prog_12_method_92_code, 4, (some .long), 10, 1, 1, 1)
set_option maxRecDepth 30000 in
theorem xm235 : mokE xe235 := Or.inr ⟨List.mem_of_getElem? (i := 1439) rfl, ⟨List.mem_of_getElem? (i := 87) (by decide +kernel), by decide +kernel, by decide +kernel, by decide +kernel⟩, by decide +kernel, Or.inr ⟨rfl, List.mem_of_getElem? (i := 1437) (by decide +kernel), List.mem_of_getElem? (i := 1438) (by decide +kernel)⟩⟩
def xe236 : xME := (⟨"OverInDinghyModel", "status", "()I"⟩, prog_12_method_93_code, 1, (some .int), 10, 0, 0, 1)
set_option maxRecDepth 30000 in
theorem xm236 : mokE xe236 := Or.inr ⟨List.mem_of_getElem? (i := 1443) rfl, ⟨List.mem_of_getElem? (i := 87) (by decide +kernel), by decide +kernel, by decide +kernel, by decide +kernel⟩, by decide +kernel, Or.inr ⟨rfl, List.mem_of_getElem? (i := 1441) (by decide +kernel), List.mem_of_getElem? (i := 1442) (by decide +kernel)⟩⟩
def xe237 : xME := (⟨"OverInDinghy$Asks", "begin", "(LOverInDinghy$Asks;ILOverInDinghy$Club;II)J"⟩, prog_2_method_7_code, 7, (some .long), 1, 2, 5, 0)
set_option maxRecDepth 30000 in
theorem xm237 : mokE xe237 := Or.inr ⟨List.mem_of_getElem? (i := 924) rfl, ⟨List.mem_of_getElem? (i := 86) (by decide +kernel), by decide +kernel, by decide +kernel, by decide +kernel⟩, by decide +kernel, Or.inl ⟨rfl, List.mem_of_getElem? (i := 923) (by decide +kernel)⟩⟩
def xe238 : xME := (⟨"OverInDinghy$Asks", "begin", "(LOverInDinghy$Asks;ILOverInDinghy$Club;II)J"⟩, prog_2_method_7_code, 7, (some .long), 1, 3, 5, 0)
set_option maxRecDepth 30000 in
theorem xm238 : mokE xe238 := Or.inr ⟨List.mem_of_getElem? (i := 924) rfl, ⟨List.mem_of_getElem? (i := 86) (by decide +kernel), by decide +kernel, by decide +kernel, by decide +kernel⟩, by decide +kernel, Or.inl ⟨rfl, List.mem_of_getElem? (i := 923) (by decide +kernel)⟩⟩
def xe239 : xME := (⟨"OverInDinghy$Asks", "begin", "(LOverInDinghy$Asks;ILOverInDinghy$Club;II)J"⟩, prog_2_method_7_code, 7, (some .long), 1, 4, 5, 0)
set_option maxRecDepth 30000 in
theorem xm239 : mokE xe239 := Or.inr ⟨List.mem_of_getElem? (i := 924) rfl, ⟨List.mem_of_getElem? (i := 86) (by decide +kernel), by decide +kernel, by decide +kernel, by decide +kernel⟩, by decide +kernel, Or.inl ⟨rfl, List.mem_of_getElem? (i := 923) (by decide +kernel)⟩⟩
def xmt11 : List xME := [xe220, xe221, xe222, xe223, xe224, xe225, xe226, xe227, xe228, xe229, xe230, xe231, xe232, xe233, xe234, xe235, xe236, xe237, xe238, xe239]
theorem xmt11_ok : ∀ e ∈ xmt11, mokE e := List.forall_mem_cons.mpr ⟨xm220, List.forall_mem_cons.mpr ⟨xm221, List.forall_mem_cons.mpr ⟨xm222, List.forall_mem_cons.mpr ⟨xm223, List.forall_mem_cons.mpr ⟨xm224, List.forall_mem_cons.mpr ⟨xm225, List.forall_mem_cons.mpr ⟨xm226, List.forall_mem_cons.mpr ⟨xm227, List.forall_mem_cons.mpr ⟨xm228, List.forall_mem_cons.mpr ⟨xm229, List.forall_mem_cons.mpr ⟨xm230, List.forall_mem_cons.mpr ⟨xm231, List.forall_mem_cons.mpr ⟨xm232, List.forall_mem_cons.mpr ⟨xm233, List.forall_mem_cons.mpr ⟨xm234, List.forall_mem_cons.mpr ⟨xm235, List.forall_mem_cons.mpr ⟨xm236, List.forall_mem_cons.mpr ⟨xm237, List.forall_mem_cons.mpr ⟨xm238, List.forall_mem_cons.mpr ⟨xm239, fun _ h => absurd h List.not_mem_nil⟩⟩⟩⟩⟩⟩⟩⟩⟩⟩⟩⟩⟩⟩⟩⟩⟩⟩⟩⟩
def xe240 : xME := (⟨"OverInDinghy$Asks", "begin", "(LOverInDinghy$Asks;ILOverInDinghy$Club;II)J"⟩, prog_2_method_7_code, 7, (some .long), 1, 5, 5, 0)
set_option maxRecDepth 30000 in
theorem xm240 : mokE xe240 := Or.inr ⟨List.mem_of_getElem? (i := 924) rfl, ⟨List.mem_of_getElem? (i := 86) (by decide +kernel), by decide +kernel, by decide +kernel, by decide +kernel⟩, by decide +kernel, Or.inl ⟨rfl, List.mem_of_getElem? (i := 923) (by decide +kernel)⟩⟩
def xe241 : xME := (⟨"OverInDinghy$Asks", "begin", "(LOverInDinghy$Asks;ILOverInDinghy$Club;II)J"⟩, prog_2_method_7_code, 7, (some .long), 1, 6, 5, 0)
set_option maxRecDepth 30000 in
theorem xm241 : mokE xe241 := Or.inr ⟨List.mem_of_getElem? (i := 924) rfl, ⟨List.mem_of_getElem? (i := 86) (by decide +kernel), by decide +kernel, by decide +kernel, by decide +kernel⟩, by decide +kernel, Or.inl ⟨rfl, List.mem_of_getElem? (i := 923) (by decide +kernel)⟩⟩
def xe242 : xME := (⟨"OverInDinghy$Asks", "begin", "(LOverInDinghy$Asks;ILOverInDinghy$Club;II)J"⟩, prog_2_method_7_code, 7, (some .long), 1, 7, 5, 0)
set_option maxRecDepth 30000 in
theorem xm242 : mokE xe242 := Or.inr ⟨List.mem_of_getElem? (i := 924) rfl, ⟨List.mem_of_getElem? (i := 86) (by decide +kernel), by decide +kernel, by decide +kernel, by decide +kernel⟩, by decide +kernel, Or.inl ⟨rfl, List.mem_of_getElem? (i := 923) (by decide +kernel)⟩⟩
def xe243 : xME := (⟨"OverInDinghy$Asks", "begin", "(LOverInDinghy$Asks;ILOverInDinghy$Club;II)J"⟩, prog_2_method_7_code, 7, (some .long), 1, 8, 5, 0)
set_option maxRecDepth 30000 in
theorem xm243 : mokE xe243 := Or.inr ⟨List.mem_of_getElem? (i := 924) rfl, ⟨List.mem_of_getElem? (i := 86) (by decide +kernel), by decide +kernel, by decide +kernel, by decide +kernel⟩, by decide +kernel, Or.inl ⟨rfl, List.mem_of_getElem? (i := 923) (by decide +kernel)⟩⟩
def xmt12 : List xME := [xe240, xe241, xe242, xe243]
theorem xmt12_ok : ∀ e ∈ xmt12, mokE e := List.forall_mem_cons.mpr ⟨xm240, List.forall_mem_cons.mpr ⟨xm241, List.forall_mem_cons.mpr ⟨xm242, List.forall_mem_cons.mpr ⟨xm243, fun _ h => absurd h List.not_mem_nil⟩⟩⟩⟩
def xmt : List xME := xmt0 ++ xmt1 ++ xmt2 ++ xmt3 ++ xmt4 ++ xmt5 ++ xmt6 ++ xmt7 ++ xmt8 ++ xmt9 ++ xmt10 ++ xmt11 ++ xmt12
theorem xmt_app {a b : List xME} (ha : ∀ e ∈ a, mokE e) (hb : ∀ e ∈ b, mokE e) : ∀ e ∈ a ++ b, mokE e := fun e h => (List.mem_append.mp h).elim (ha e) (hb e)
theorem xmt_ok : ∀ e ∈ xmt, mokE e := xmt_app (xmt_app (xmt_app (xmt_app (xmt_app (xmt_app (xmt_app (xmt_app (xmt_app (xmt_app (xmt_app (xmt_app (xmt0_ok) xmt1_ok) xmt2_ok) xmt3_ok) xmt4_ok) xmt5_ok) xmt6_ok) xmt7_ok) xmt8_ok) xmt9_ok) xmt10_ok) xmt11_ok) xmt12_ok
def xed : xME := (⟨"", "", ""⟩, ⟨#[]⟩, 0, none, 0, 0, 0, 2)
def xe (y : Nat) : xME := xmt.getD y xed
theorem xe_ok (y : Nat) : mokE (xe y) := by
  unfold xe
  rw [List.getD_eq_getElem?_getD]
  cases h : xmt[y]? with
  | none => exact Or.inl rfl
  | some e => exact xmt_ok e (List.mem_of_getElem? h)
end
section
/-- method links: own class, index, call number -/
def xlm : List (Nat × Nat × Nat × Nat) := [(0, 67, 6464, 387), (0, 73, 7178, 391), (0, 77, 7944, 396), (0, 81, 8458, 400), (0, 85, 9736, 408), (0, 92, 10504, 412), (0, 99, 11784, 420), (0, 103, 12552, 424), (0, 107, 14214, 439), (0, 112, 14918, 444), (0, 120, 16134, 452), (0, 135, 33412, 568), (0, 142, 35332, 581), (0, 145, 35972, 585), (0, 151, 36612, 589), (0, 159, 37892, 598), (0, 162, 38532, 602), (0, 166, 40388, 614), (0, 171, 41093, 619), (0, 174, 41732, 623), (0, 190, 43012, 696), (0, 194, 44932, 697), (0, 197, 50052, 698), (0, 209, 54596, 707), (0, 213, 55360, 712), (0, 219, 57728, 729), (0, 226, 58944, 737), (0, 229, 61001, 747), (0, 233, 66633, 787), (0, 239, 51972, 795), (0, 242, 59648, 796), (0, 246, 68544, 801), (0, 249, 71304, 814), (0, 252, 72647, 822), (0, 256, 74439, 835), (0, 264, 75648, 844), (0, 269, 76352, 847), (0, 275, 77568, 857), (0, 279, 78208, 858), (0, 285, 80256, 870), (0, 289, 81418, 878), (0, 293, 83264, 890), (0, 296, 84544, 897), (0, 299, 85248, 900), (0, 302, 86659, 910), (0, 311, 90312, 941), (0, 317, 90948, 946), (0, 320, 91588, 951), (1, 13, 84544, 903), (1, 29, 83264, 914), (1, 33, 87168, 915), (1, 37, 152000, 922), (1, 37, 152640, 922), (1, 37, 153280, 922), (1, 37, 153920, 922), (1, 37, 154560, 922), (1, 37, 155200, 922), (1, 37, 155840, 922), (1, 47, 88451, 925), (2, 65, 1408, 460), (2, 83, 35332, 711), (2, 87, 43716, 635), (2, 91, 44420, 639), (2, 95, 45572, 647), (2, 99, 46276, 651), (2, 102, 35972, 950), (2, 105, 36612, 955), (2, 108, 42436, 627), (2, 112, 43012, 631), (2, 115, 44932, 643), (2, 118, 46916, 655), (2, 121, 48132, 666), (2, 125, 49476, 673), (2, 128, 51332, 684), (2, 131, 39300, 606), (2, 135, 50052, 677), (2, 143, 47493, 659), (2, 147, 38532, 665), (2, 158, 51972, 688), (4, 9, 44420, 715), (4, 15, 55872, 716), (4, 21, 56448, 720), (4, 25, 46276, 723), (4, 39, 35972, 719), (4, 47, 59648, 740), (4, 50, 69248, 804), (4, 54, 69888, 807), (4, 57, 71880, 873), (5, 7, 76928, 850), (5, 13, 77568, 853), (6, 22, 16708, 456), (6, 27, 17350, 461), (6, 30, 20614, 479), (6, 36, 21894, 488), (6, 40, 31494, 554), (6, 46, 32134, 558), (6, 51, 21318, 484), (6, 55, 30278, 544), (6, 73, 30790, 549), (6, 101, 32772, 563), (6, 105, 29638, 540), (6, 129, 22514, 492), (6, 134, 23858, 502), (6, 138, 17984, 465), (6, 142, 18630, 468), (6, 145, 19264, 472), (6, 148, 19910, 475), (7, 22, 71880, 826), (7, 28, 73095, 827), (7, 32, 73735, 831), (8, 31, 71880, 818), (8, 35, 9736, 945), (9, 29, 33412, 751), (9, 41, 61641, 753), (9, 54, 62281, 758), (9, 58, 62784, 763), (9, 62, 63561, 766), (9, 68, 35972, 757), (9, 71, 64201, 770), (9, 80, 64768, 774), (9, 83, 65481, 777), (9, 87, 66185, 781), (9, 91, 42436, 786), (9, 98, 36612, 785), (10, 64, 94912, 1072), (10, 68, 94144, 1068), (10, 76, 95499, 1077), (10, 96, 99979, 1109), (10, 106, 100544, 1114), (10, 109, 101184, 1117), (10, 121, 103819, 1133), (10, 125, 99275, 1105), (10, 128, 105035, 1141), (10, 132, 103179, 1129), (10, 136, 102475, 1124), (10, 142, 104523, 1137), (10, 148, 105675, 1146), (10, 151, 107083, 1155), (10, 155, 108299, 1164), (10, 158, 101835, 1120), (10, 163, 106315, 1151), (10, 168, 107595, 1160), (10, 180, 111563, 1185), (10, 183, 115403, 1210), (10, 187, 115968, 1214), (10, 191, 110848, 1182), (10, 195, 119243, 1237), (10, 198, 122443, 1257), (10, 201, 123147, 1261), (10, 205, 114891, 1206), (10, 209, 110219, 1177), (10, 214, 112139, 1189), (10, 219, 113419, 1198), (10, 222, 114123, 1202), (10, 234, 118539, 1231), (10, 237, 119883, 1241), (10, 240, 120523, 1245), (10, 243, 121803, 1253), (10, 246, 123723, 1265), (10, 249, 125579, 1277), (10, 252, 118027, 1227), (10, 256, 121227, 1249), (10, 259, 124363, 1269), (10, 262, 125003, 1273), (10, 269, 117387, 1223), (10, 274, 128331, 1294), (10, 283, 132107, 1319), (10, 290, 130699, 1311), (10, 299, 131403, 1315), (10, 304, 133888, 1332), (10, 307, 136523, 1349), (10, 314, 135307, 1341), (10, 318, 135819, 1345), (10, 321, 139008, 1363), (10, 325, 137728, 1357), (10, 328, 138432, 1360), (10, 332, 139712, 1366), (10, 342, 143499, 1392), (10, 347, 144768, 1401), (10, 353, 146699, 1412), (10, 356, 147339, 1416), (10, 359, 148043, 1420), (10, 362, 148683, 1424), (10, 365, 146123, 1408), (10, 368, 149323, 1428), (11, 13, 6026, 383), (11, 17, 93707, 1064), (11, 18, 9226, 404), (11, 21, 96267, 1082), (11, 22, 11274, 416), (11, 26, 97035, 1086), (11, 27, 12938, 431), (11, 31, 97419, 1090), (11, 34, 13642, 435), (11, 38, 98123, 1094), (11, 39, 15434, 448), (11, 43, 98635, 1101), (11, 44, 33994, 573), (11, 48, 108875, 1169), (11, 49, 34762, 577), (11, 53, 109643, 1173), (11, 54, 37258, 594), (11, 57, 112779, 1194), (11, 58, 39882, 610), (11, 61, 116683, 1217), (11, 62, 52682, 692), (11, 65, 126283, 1281), (11, 66, 53322, 699), (11, 69, 126923, 1285), (11, 70, 54090, 703), (11, 74, 127691, 1289), (11, 75, 57098, 725), (11, 78, 128779, 1299), (11, 79, 58378, 733), (11, 82, 129419, 1303), (11, 83, 60362, 743), (11, 86, 130123, 1307), (11, 87, 67402, 791), (11, 90, 132683, 1323), (11, 91, 67978, 797), (11, 94, 133259, 1327), (11, 95, 70730, 810), (11, 98, 134731, 1335), (11, 99, 75210, 840), (11, 102, 137291, 1353), (11, 103, 78986, 861), (11, 106, 140427, 1369), (11, 107, 79562, 866), (11, 110, 141003, 1375), (11, 111, 80778, 874), (11, 114, 141579, 1380), (11, 115, 82058, 882), (11, 118, 142219, 1384), (11, 119, 82698, 886), (11, 122, 142859, 1388), (11, 123, 84042, 893), (11, 126, 144203, 1396), (11, 127, 85962, 906), (11, 130, 145483, 1404), (11, 131, 89098, 932), (11, 135, 149899, 1432), (11, 136, 89738, 937), (11, 139, 150539, 1436), (11, 140, 92234, 956), (11, 143, 151115, 1440), (13, 335, 23154, 496), (13, 492, 24434, 506), (13, 495, 25088, 510), (13, 1059, 26432, 518), (14, 9, 25728, 513)]
theorem xlm_ok : ∀ r ∈ xlm, lw_tbl[r.2.2.2]? = some (Cond.methodLink (cn r.1) r.2.1 (xe (r.2.2.1 / 640)).1) := by decide +kernel
theorem xlm_n : ∀ r ∈ xlm, (r.2.2.1 / 64) % 10 = (xe (r.2.2.1 / 640)).2.2.2.2.2.2.1 + (xe (r.2.2.1 / 640)).2.2.2.2.2.2.2 ∧ (xe (r.2.2.1 / 640)).2.2.2.2.2.2.2 ≠ 2 ∧ ((xe (r.2.2.1 / 640)).2.2.2.2.2.2.2 = 1 → (r.2.2.1 % 64 = 50 ∧ (xe (r.2.2.1 / 640)).1.cls = "java/lang/String") ∨ (xcl[r.2.2.1 % 64 - 3]?).map (fun q => q.1) = some (xe (r.2.2.1 / 640)).1.cls ∧ 3 ≤ r.2.2.1 % 64) := by decide +kernel
/-- field links: own class, index, field number -/
def xlf : List (Nat × Nat × Nat × Nat) := [(0, 12, 224, 346), (0, 19, 225, 347), (0, 26, 226, 348), (0, 30, 227, 349), (0, 33, 228, 350), (0, 36, 229, 351), (0, 42, 230, 352), (0, 49, 231, 353), (0, 56, 232, 354), (0, 63, 233, 355), (0, 88, 161, 116), (0, 96, 160, 114), (0, 116, 97, 134), (0, 124, 103, 140), (0, 127, 234, 356), (0, 132, 104, 142), (0, 139, 36, 181), (0, 148, 46, 214), (0, 156, 49, 223), (0, 178, 35, 178), (0, 181, 42, 199), (0, 184, 43, 203), (0, 187, 44, 207), (0, 200, 45, 209), (0, 203, 47, 218), (0, 206, 50, 227), (0, 223, 41, 195), (0, 236, 198, 298), (0, 259, 128, 321), (0, 306, 1, 340), (0, 308, 0, 338), (0, 314, 37, 186), (0, 323, 33, 174), (0, 326, 235, 357), (1, 9, 0, 337), (1, 20, 1, 339), (1, 24, 42, 197), (1, 51, 44, 206), (1, 58, 43, 201), (2, 9, 38, 187), (2, 15, 39, 189), (2, 18, 40, 191), (2, 21, 41, 193), (2, 24, 42, 196), (2, 27, 43, 200), (2, 30, 44, 204), (2, 33, 45, 208), (2, 36, 46, 210), (2, 39, 47, 215), (2, 42, 48, 219), (2, 45, 49, 221), (2, 48, 50, 224), (2, 51, 34, 175), (2, 55, 35, 177), (2, 59, 36, 179), (2, 62, 37, 182), (2, 71, 32, 170), (2, 74, 33, 172), (2, 138, 64, 274), (3, 7, 64, 273), (3, 13, 65, 275), (4, 31, 37, 184), (4, 35, 46, 211), (4, 43, 47, 216), (6, 11, 96, 132), (6, 15, 97, 133), (6, 19, 98, 135), (6, 43, 100, 137), (6, 59, 102, 139), (6, 62, 32, 171), (6, 65, 33, 173), (6, 70, 34, 176), (6, 77, 36, 180), (6, 80, 38, 188), (6, 84, 39, 190), (6, 87, 40, 192), (6, 90, 41, 194), (6, 95, 37, 185), (6, 98, 99, 136), (6, 108, 46, 213), (6, 111, 47, 217), (6, 114, 48, 220), (6, 117, 50, 225), (6, 120, 101, 138), (6, 123, 103, 141), (6, 126, 104, 143), (7, 9, 128, 320), (7, 15, 129, 322), (7, 18, 130, 323), (8, 9, 160, 113), (8, 13, 161, 115), (8, 16, 162, 117), (9, 14, 192, 291), (9, 21, 193, 292), (9, 25, 194, 293), (9, 33, 197, 296), (9, 38, 198, 297), (9, 45, 195, 294), (9, 48, 196, 295), (9, 51, 37, 183), (9, 65, 46, 212), (9, 74, 42, 198), (9, 77, 44, 205), (9, 95, 49, 222), (9, 101, 43, 202), (9, 110, 50, 226), (10, 9, 258, 968), (10, 13, 259, 969), (10, 16, 260, 970), (10, 19, 261, 971), (10, 22, 262, 972), (10, 25, 264, 974), (10, 28, 265, 975), (10, 31, 276, 986), (10, 34, 281, 991), (10, 37, 282, 992), (10, 40, 283, 993), (10, 44, 284, 994), (10, 47, 285, 995), (10, 50, 286, 996), (10, 53, 256, 966), (10, 57, 257, 967), (10, 82, 266, 976), (10, 89, 268, 978), (10, 93, 269, 979), (10, 100, 271, 981), (10, 103, 270, 980), (10, 112, 272, 982), (10, 115, 273, 983), (10, 118, 274, 984), (10, 171, 267, 977), (10, 176, 263, 973), (10, 226, 275, 985), (10, 280, 277, 987), (10, 287, 278, 988), (10, 293, 279, 989), (10, 296, 280, 990), (10, 350, 287, 997)]
def xfd (f : Nat) : String × String × String × Bool := match xcl[f / 32]? with | some q => q.2.1 (f % 32) | none => ("", "", "", false)
theorem xlf_ok : ∀ r ∈ xlf, lw_tbl[r.2.2.2]? = some (Cond.fieldLink (cn r.1) r.2.1 (xfd r.2.2.1).1 (xfd r.2.2.1).2.1 (xfd r.2.2.1).2.2.1) ∧ (∃ q, xcl[r.2.2.1 / 32]? = some q ∧ r.2.2.1 % 32 < q.2.2) := by
  have h1 : ∀ r ∈ xlf, lw_tbl[r.2.2.2]? = some (Cond.fieldLink (cn r.1) r.2.1 (xfd r.2.2.1).1 (xfd r.2.2.1).2.1 (xfd r.2.2.1).2.2.1) := by decide +kernel
  have h2 : ∀ r ∈ xlf, ((xcl[r.2.2.1 / 32]?).map (fun q => decide (r.2.2.1 % 32 < q.2.2))) = some true := by decide +kernel
  intro r hr
  refine ⟨h1 r hr, ?_⟩
  have h3 := h2 r hr
  cases hq : xcl[r.2.2.1 / 32]? with
  | none => rw [hq] at h3; simp at h3
  | some q => rw [hq] at h3; exact ⟨q, rfl, by simpa using h3⟩
/-- constants: own class, index, value -/
def xlc : List (Nat × Nat × Int × Nat) := [(0, 170, 999999, 618), (0, 307, -1000000, 936), (4, 46, -1000000, 732), (9, 37, -1000000, 752), (10, 92, -1000000, 1113)]
theorem xlc_ok : ∀ r ∈ xlc, lw_tbl[r.2.2.2]? = some (Cond.constant (cn r.1) r.2.1 (Int32.ofInt r.2.2.1)) := by decide +kernel
def xll : List (Nat × Nat × Int × Nat) := [(0, 71, -9000000000000000001, 390), (0, 110, -9000000000000000003, 443), (0, 130, -9000000000000000100, 567), (0, 154, -9000000000000000002, 593), (0, 262, -1000000, 839), (0, 273, 100, 856), (0, 283, 1000, 865), (0, 329, -9000000000000000010, 395), (1, 54, 2, 929), (1, 56, 1000, 930), (1, 61, 500, 931), (3, 17, 16807, 663), (3, 19, 2147483647, 664), (4, 29, -1000000, 724), (10, 60, -9000000000000000010, 1081), (10, 62, 7, 1071), (10, 72, 2, 1075), (10, 74, -9000000000000000001, 1076), (10, 80, 8, 1098), (10, 85, -9000000000000000003, 1099), (10, 87, 255, 1100), (10, 140, 7562593, 1128), (10, 146, 7173476, 1145), (10, 161, 1651466612, 1150), (10, 166, 1751215716, 1159), (10, 174, -9000000000000000100, 1168), (10, 212, 3, 1181), (10, 217, -9000000000000000002, 1193), (10, 230, 16807, 1235), (10, 232, 2147483647, 1236), (10, 265, 60, 1221), (10, 267, 999999, 1222), (10, 272, 100, 1293), (10, 278, -1000000, 1298), (10, 302, 4, 1331), (10, 310, 20, 1339), (10, 312, 99, 1340), (10, 336, 999, 1373), (10, 338, 1000, 1374), (10, 340, 9, 1379), (10, 345, 5, 1400), (11, 32, 4294967295, 1444)]
theorem xll_ok : ∀ r ∈ xll, lw_tbl[r.2.2.2]? = some (Cond.constantLong (cn r.1) r.2.1 (Int64.ofInt r.2.2.1)) := by decide +kernel
def xla : List (Nat × Nat × Nat) := [(8, 25, 428), (2, 77, 572), (9, 104, 762)]
theorem xla_ok : ∀ r ∈ xla, lw_tbl[r.2.2]? = some (Cond.methodLink (cn r.1) r.2.1 arraycopyName) := by decide +kernel
def xlx : List (Nat × Nat × Nat) := [(2, 150, 681)]
theorem xlx_ok : ∀ r ∈ xlx, lw_tbl[r.2.2]? = some (Cond.methodLink (cn r.1) r.2.1 Lib.Math.max.name) := by decide +kernel
theorem xlx_st : Cond.static Lib.Math.max.name ∈ lw_tbl := List.mem_of_getElem? (i := 682) (by decide +kernel)
set_option maxRecDepth 30000 in
theorem xlx_co : Cond.code Lib.Math.max.name Lib.Math.max.code 2 (some .int) ∈ lw_tbl := List.mem_of_getElem? (i := 683) rfl
def xly : List (Nat × Nat × Nat) := [(2, 155, 670)]
theorem xly_ok : ∀ r ∈ xly, lw_tbl[r.2.2]? = some (Cond.methodLink (cn r.1) r.2.1 Lib.Math.min.name) := by decide +kernel
theorem xly_st : Cond.static Lib.Math.min.name ∈ lw_tbl := List.mem_of_getElem? (i := 671) (by decide +kernel)
set_option maxRecDepth 30000 in
theorem xly_co : Cond.code Lib.Math.min.name Lib.Math.min.code 2 (some .int) ∈ lw_tbl := List.mem_of_getElem? (i := 672) rfl
theorem xs0 : Cond.fieldLink "OverInDinghy$Asks" 17 "OverInDinghy$Asks" "PARENT" "[I" ∈ lw_tbl := List.mem_of_getElem? (i := 904) (by decide +kernel)
theorem xs1 : Cond.fieldLink "OverInDinghy$Asks" 41 "OverInDinghy$Asks" "SIZE_BODY" "[I" ∈ lw_tbl := List.mem_of_getElem? (i := 918) (by decide +kernel)
theorem xs2 : Cond.fieldLink "OverInDinghy$Asks" 44 "OverInDinghy$Asks" "MARK_BODY" "[I" ∈ lw_tbl := List.mem_of_getElem? (i := 920) (by decide +kernel)
theorem xs3 : Cond.fieldLink "java/lang/String" 38 "java/lang/String" "COMPACT_STRINGS" "Z" ∈ lw_tbl := List.mem_of_getElem? (i := 500) (by decide +kernel)
theorem xs4 : Cond.fieldLink "java/lang/String" 1053 "jdk/internal/util/Preconditions" "SIOOBE_FORMATTER" "Ljava/util/function/BiFunction;" ∈ lw_tbl := List.mem_of_getElem? (i := 516) (by decide +kernel)
theorem xs5 : Cond.fieldLink "java/lang/String" 9 "java/lang/String" "value" "[B" ∈ lw_tbl := List.mem_of_getElem? (i := 1445) (by decide +kernel)
theorem xs6 : Cond.fieldLink "java/lang/String" 15 "java/lang/String" "coder" "B" ∈ lw_tbl := List.mem_of_getElem? (i := 1446) (by decide +kernel)
end
section
/-! ===== THE LAYER: an abstract memory, a weakest-precondition function over resolved instructions ===== -/
abbrev xM : Type := (Nat → Nat → Int32) × (Nat → Nat → Int64)
def xa (m : xM) (k : Nat) (f : Nat → Int32) : xM := (fun q => if q = k then f else m.1 q, m.2)
def xb (m : xM) (k : Nat) (f : Nat → Int64) : xM := (m.1, fun q => if q = k then f else m.2 q)
/-- launch, tables, addresses, array classes (int, byte, boolean), the value of the formatter static -/
abbrev xG : Type := Launch × va_G × (Nat → Nat) × ClassId × ClassId × ClassId × Value
def cv (G : xG) (v : Value) : Value := match v with
  | .ref k => .ref (G.2.2.1 k)
  | .null => G.2.2.2.2.2.2
  | v => v
def xclubL : List (Nat × Nat) := [(4, 0), (0, 6), (0, 6), (0, 6), (0, 6), (0, 6), (0, 6), (0, 6), (0, 6), (0, 12), (0, 12), (0, 12), (0, 12), (0, 12)]
/-- the cells' shapes: kind (0 ints, 1 bytes, 2 booleans, 3 + class: an object), length -/
def xshL : List (Nat × Nat) := [(10, 0), (8, 0), (0, 8), (0, 8), (0, 320), (6, 0), (1, 400)] ++ xclubL ++ xclubL ++ xclubL ++ xclubL ++ [(5, 0), (9, 0)] ++ xclubL ++ [(5, 0), (0, 81), (7, 0), (0, 6), (0, 6), (3, 0), (0, 16)] ++ [(11, 0), (0, 8), (0, 8), (0, 320), (0, 65), (0, 65), (0, 49), (0, 400), (0, 49), (0, 6), (0, 6), (2, 2), (0, 130), (0, 98), (0, 16)]
def sh (k : Nat) : Nat × Nat := if k < 1000 then xshL.getD k (99, 0) else if k < 1004 then (50, 0) else if k < 1010 then (99, 0) else if k < 1012 then (51, 3) else if k < 1014 then (51, 4) else if k < 1020 then (99, 0) else if k < 1023 then (52, 6) else (99, 0)
/-- what the fixed cells hold: the texts' bytes, the tables of Asks -/
def xc (k : Nat) : Nat → Int32 := match k with
  | 1010 => fun j => [115, 101, 97].getD j 0
  | 1011 => fun j => [109, 117, 100].getD j 0
  | 1012 => fun j => [98, 111, 97, 116].getD j 0
  | 1013 => fun j => [104, 97, 110, 100].getD j 0
  | 1020 => fun j => [-1, 0, 0, 2, 3, 0].getD j 0
  | 1021 => fun j => [10, 0, 11, 12, 14, 13].getD j 0
  | 1022 => fun j => [20, 23, 21, 0, 22, 24].getD j 0
  | _ => fun _ => 0
/-- which cell a reference field holds -/
def rt (k j : Nat) : Nat := match (sh k).1 with
  | 10 => [1, 5, 7, 21, 35, 49, 63, 64, 81, 84].getD j 0
  | 8 => k + 1 + j
  | 6 => k + 1
  | 4 => k + j - 5
  | 9 => [65, 79, 80].getD j 0
  | 7 => k + 1 + j
  | 3 => k + 1
  | 11 => match j with | 2 => 87 | 3 => 88 | 4 => 89 | 5 => 90 | 6 => 91 | 8 => 92 | 9 => 93 | 20 => 94 | 25 => 95 | 26 => 96 | 27 => 97 | 28 => 98 | 29 => 99 | 30 => 100 | _ => 0
  | _ => 0
def xN (ci : Nat) : Nat := (xcl.getD ci ("", xF0, 0)).2.2
def xfv (G : xG) (m : xM) (k ci j : Nat) : Value := match xty ci j with
  | .int => .int (m.1 k j)
  | .boolean => .int (m.1 k j)
  | .long => .long (m.2 k j)
  | _ => .ref (G.2.2.1 (rt k j))
def xcell (G : xG) (m : xM) (k : Nat) : va_E := match (sh k).1 with
  | 0 => .inl (G.2.2.2.1, (sh k).2, .inl (m.1 k))
  | 1 => .inl (G.2.2.2.2.1, (sh k).2, .inl (m.1 k))
  | 2 => .inl (G.2.2.2.2.2.1, (sh k).2, .inl (m.1 k))
  | t + 3 => .inr (t, (List.range (xN t)).map (xfv G m k t))
def wl (G : xG) (m : xM) : va_W := (List.range 101).map (fun k => (G.2.2.1 k, xcell G m k))
theorem wl_at (G : xG) (m : xM) {k : Nat} (h : k < 101) : (wl G m)[k]? = some (G.2.2.1 k, xcell G m k) := by
  unfold wl
  rw [List.getElem?_map, List.getElem?_range h]
  rfl
theorem xcell_eq {G : xG} {m m' : xM} {k : Nat} (h1 : m'.1 k = m.1 k) (h2 : m'.2 k = m.2 k) : xcell G m' k = xcell G m k := by
  unfold xcell xfv
  rw [h1, h2]
theorem wl_set {G : xG} {m m' : xM} {k : Nat} {e : va_E} (hk : k < 101) (h : ∀ q, q ≠ k → m'.1 q = m.1 q ∧ m'.2 q = m.2 q) (he : e = xcell G m' k) : (wl G m).set k (G.2.2.1 k, e) = wl G m' := by
  subst he
  apply List.ext_getElem?
  intro i
  by_cases hi : i = k
  · subst hi
    rw [List.getElem?_set_self (by simp [wl, hk]), wl_at G m' hk]
  · rw [List.getElem?_set_ne (Ne.symm hi)]
    by_cases hl : i < 101
    · rw [wl_at G m hl, wl_at G m' hl, xcell_eq (h i hi).1 (h i hi).2]
    · rw [List.getElem?_eq_none (by simp [wl]; omega), List.getElem?_eq_none (by simp [wl]; omega)]
theorem xshL_len : xshL.length = 101 := by decide +kernel
theorem sh_lt {k : Nat} (h : (sh k).1 < 12) : k < 101 := by
  unfold sh at h
  by_cases h1 : k < 1000
  · rw [if_pos h1] at h
    by_cases h2 : k < 101
    · exact h2
    · rw [List.getD_eq_getElem?_getD, List.getElem?_eq_none (by rw [xshL_len]; omega)] at h
      simp at h
  · rw [if_neg h1] at h
    split at h
    · simp at h
    · split at h
      · simp at h
      · split at h
        · simp at h
        · split at h
          · simp at h
          · split at h
            · simp at h
            · split at h <;> simp at h
def xA (G : xG) : Nat → Prop := fun q => ∃ k, k < 101 ∧ q = G.2.2.1 k
def xInj (G : xG) : Prop := ∀ i j, i < 101 → j < 101 → G.2.2.1 i = G.2.2.1 j → i = j
theorem xD {G : xG} (h : xInj G) (m : xM) : va_D (xA G) (wl G m) := by
  have key : ∀ (i : Nat) (p : Nat × va_E), (wl G m)[i]? = some p → i < 101 ∧ p.1 = G.2.2.1 i := by
    intro i p hp
    have hl : i < 101 := by
      have := (List.getElem?_eq_some_iff.mp hp).1
      simpa [wl] using this
    rw [wl_at G m hl] at hp
    cases hp
    exact ⟨hl, rfl⟩
  refine ⟨fun i j p q hp hq e => ?_, fun i p hp => ⟨i, (key i p hp).1, (key i p hp).2⟩⟩
  obtain ⟨a1, a2⟩ := key i p hp
  obtain ⟨b1, b2⟩ := key j q hq
  exact h i j a1 b1 (by rw [← a2, ← b2]; exact e)
abbrev xtys (G : xG) : List (ClassId × FieldType) := [(G.2.2.2.1, .int), (G.2.2.2.2.1, .byte), (G.2.2.2.2.2.1, .boolean)]
def xKs (G : xG) (s : State) : Prop := va_K G.2.1 xcl (xtys G) s
def xtxt : List (Nat × String × Nat) := [(49, "sea", 3), (68, "mud", 3), (34, "boat", 4), (93, "hand", 4)]
def xsta : List String := ["PARENT", "SIZE_BODY", "MARK_BODY"]
/-- what lies outside: the tables of Asks, two statics of the JDK's, the four texts -/
def xEx (G : xG) (s : State) (H : Heap) : Prop :=
  (∀ i, i < 3 → va_Z "OverInDinghy$Asks" (xsta.getD i "") "[I" (.ref (G.2.2.1 (1020 + i))) (xA G) s H ∧ va_T .int (G.2.2.1 (1020 + i)) 6 (fun j => .int (xc (1020 + i) j)) (xA G) s H) ∧
  va_Z "java/lang/String" "COMPACT_STRINGS" "Z" (.int 1) (xA G) s H ∧
  va_Z "jdk/internal/util/Preconditions" "SIOOBE_FORMATTER" "Ljava/util/function/BiFunction;" G.2.2.2.2.2.2 (xA G) s H ∧
  (∀ i, i < 4 → vk_R "OverInDinghy$Reader" (xtxt.getD i (0, "", 0)).1 (xtxt.getD i (0, "", 0)).2.1 (G.2.2.1 (1000 + i)) s) ∧
  (∀ i, i < 4 → va_O "java/lang/String" (G.2.2.1 (1000 + i)) (xA G) s H ∧ va_OF "java/lang/String" "coder" "B" (.int 0) (G.2.2.1 (1000 + i)) (xA G) s H ∧ va_OF "java/lang/String" "value" "[B" (.ref (G.2.2.1 (1010 + i))) (G.2.2.1 (1000 + i)) (xA G) s H ∧ va_T .byte (G.2.2.1 (1010 + i)) (xtxt.getD i (0, "", 0)).2.2 (fun j => .int (xc (1010 + i) j)) (xA G) s H)
theorem xEx.go {G : xG} {s U : State} {H H1 : Heap} (h : xEx G s H) (hW : s.WarmedH U.vm) (hq : ∀ a : Nat, a < H.size → ¬ xA G a → H1[a]? = H[a]?) : xEx G U H1 := by
  obtain ⟨h1, h2, h3, h4, h5⟩ := h
  refine ⟨fun i hi => ⟨((h1 i hi).1.moved hW.alike).kept hq, ((h1 i hi).2.moved hW.alike).kept hq⟩, (h2.moved hW.alike).kept hq, (h3.moved hW.alike).kept hq, fun i hi => (h4 i hi).warm hW, fun i hi => ?_⟩
  obtain ⟨a1, a2, a3, a4⟩ := h5 i hi
  exact ⟨(va_O.moved hW.alike a1).kept hq, (va_OF.moved hW.alike a2).kept hq, (va_OF.moved hW.alike a3).kept hq, (va_T.moved hW.alike a4).kept hq⟩
theorem xEx.vm {G : xG} {s U : State} {H : Heap} (h : xEx G s H) (hv : U.vm = s.vm) : xEx G U H := by
  have ha : s.vm.Alike U.vm := by rw [hv]; exact Vm.Alike.refl _
  obtain ⟨h1, h2, h3, h4, h5⟩ := h
  refine ⟨fun i hi => ⟨(h1 i hi).1.moved ha, (h1 i hi).2.moved ha⟩, h2.moved ha, h3.moved ha, fun i hi => (h4 i hi).same hv, fun i hi => ?_⟩
  obtain ⟨a1, a2, a3, a4⟩ := h5 i hi
  exact ⟨va_O.moved ha a1, va_OF.moved ha a2, va_OF.moved ha a3, va_T.moved ha a4⟩
abbrev xQt : Type := Option Value → xM → Prop
def xPre (G : xG) (m : xM) (U : State) : Prop := va_P G.2.1 xcl (wl G m) U.heap ∧ xKs G U ∧ xEx G U U.heap
def xPost (G : xG) (Q : xQt) : Array Value → State → Outcome → State → Prop := fun _ st o t => (∃ (r : Option Value) (m' : xM), o = .returned (r.map (cv G)) ∧ Q r m' ∧ va_P G.2.1 xcl (wl G m') t.heap) ∧ va_F (xA G) st t
def rmd (d : Nat) : Room := { frames := d + 1, cells := 0, slots := 0, locals := 64 * (d + 1) }
abbrev ht (y : Nat) : Nat := (xe y).2.2.2.2.2.1
abbrev yw (y : Nat) : List Cond := .code (xe y).1 (xe y).2.1 (xe y).2.2.1 (xe y).2.2.2.1 :: xg_tbl
def Tri (G : xG) (y : Nat) (as : List Value) (m : xM) (Q : xQt) : Prop := xInj G → Met G.1 (xe y).1 (yw y) (rmd (ht y)) (va_Pc (as.map (cv G)) (xPre G m)) (xPost G Q) 0 0 (xA G)
def lrp (G : xG) (ls : List Value) (sl : Array Slot) (nL : Nat) : Prop := sl.size = nL ∧ lv_wf sl ∧ ∀ (i : Nat) (v : Value), ls[i]? = some v → v ≠ .null → sl[i]? = some (.val (cv G v))
def Cx (G : xG) (y : Nat) (p : Program) (s : State) (mid : MethodId) (args : Array Value) (meth : Method) (c : Code) : Prop :=
  p.tables.exec = Jvm.exec ∧ c.code = (xe y).2.1 ∧ c.maxLocals = (xe y).2.2.1 ∧ meth.sig.returnType = (xe y).2.2.2.1 ∧ meth.locks = false ∧ s.vm.findClass (cn (xe y).2.2.2.2.1) = some mid.cls ∧ (∀ w ∈ xg_tbl, w.before args s = true) ∧ xKs G s ∧ xEx G s s.heap ∧ xInj G
def VK (G : xG) (y : Nat) (Q : xQt) (pc : Nat) (ls st : List Value) (m : xM) : Prop :=
  ∀ (p : Program) (e : Env) (s : State) (mid : MethodId) (args : Array Value) (below : List Frame) (meth : Method) (c : Code) (H : Heap) (locs : List Loc) (sl : Array Slot), Cx G y p s mid args meth c → va_P G.2.1 xcl (wl G m) H → va_S (xA G) s.heap H locs → lrp G ls sl (xe y).2.2.1 →
    W p G.1 e (rmd (ht y)) s mid args below meth c H locs 0 0 (MQ below (xPost G Q) args s 0 0 (xA G)) (F0 mid pc sl (st.map (cv G)))
end
