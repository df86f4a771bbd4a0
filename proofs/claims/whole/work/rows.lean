section
-- ===== PART A: goes FIRST, ahead of the names: the tables' words, and 'selects' of the private methods out of them =====
/-- a private method of a class that the tables say can be made, by its rows of tables_1 -/
def lw_okq (q : MethodName × Nat) : Prop := (q.1.cls ≠ "java/lang/invoke/MethodHandle" ∧ q.1.cls ≠ "java/lang/invoke/VarHandle") ∧ Cond.instantiable q.1.cls q.2 ∈ tables_1 ∧ Cond.privateMethod q.1 ∈ tables_1 ∧ Cond.instanceMethod q.1 ∈ tables_1
theorem lw_p0 : lw_okq (⟨"OverInDinghy", "found", "(I)J"⟩, 12) := ⟨⟨by decide +kernel, by decide +kernel⟩, List.mem_of_getElem? (i := 20) (by decide +kernel), List.mem_of_getElem? (i := 315) (by decide +kernel), List.mem_of_getElem? (i := 316) (by decide +kernel)⟩
theorem lw_p1 : lw_okq (⟨"OverInDinghy", "fine", "(J)J"⟩, 12) := ⟨⟨by decide +kernel, by decide +kernel⟩, List.mem_of_getElem? (i := 20) (by decide +kernel), List.mem_of_getElem? (i := 324) (by decide +kernel), List.mem_of_getElem? (i := 325) (by decide +kernel)⟩
theorem lw_p2 : lw_okq (⟨"OverInDinghy$Reader", "step", "()V"⟩, 9) := ⟨⟨by decide +kernel, by decide +kernel⟩, List.mem_of_getElem? (i := 50) (by decide +kernel), List.mem_of_getElem? (i := 385) (by decide +kernel), List.mem_of_getElem? (i := 386) (by decide +kernel)⟩
theorem lw_p3 : lw_okq (⟨"OverInDinghy$Reader", "stepName", "()V"⟩, 9) := ⟨⟨by decide +kernel, by decide +kernel⟩, List.mem_of_getElem? (i := 50) (by decide +kernel), List.mem_of_getElem? (i := 392) (by decide +kernel), List.mem_of_getElem? (i := 393) (by decide +kernel)⟩
theorem lw_p4 : lw_okq (⟨"OverInDinghy$Reader", "stepNumber", "()V"⟩, 9) := ⟨⟨by decide +kernel, by decide +kernel⟩, List.mem_of_getElem? (i := 50) (by decide +kernel), List.mem_of_getElem? (i := 399) (by decide +kernel), List.mem_of_getElem? (i := 400) (by decide +kernel)⟩
theorem lw_p5 : lw_okq (⟨"OverInDinghy$Reader", "readSea", "(LOverInDinghy$Club;)Z"⟩, 9) := ⟨⟨by decide +kernel, by decide +kernel⟩, List.mem_of_getElem? (i := 50) (by decide +kernel), List.mem_of_getElem? (i := 403) (by decide +kernel), List.mem_of_getElem? (i := 404) (by decide +kernel)⟩
theorem lw_p6 : lw_okq (⟨"OverInDinghy$Reader", "takeWord", "(Ljava/lang/String;Z)Z"⟩, 9) := ⟨⟨by decide +kernel, by decide +kernel⟩, List.mem_of_getElem? (i := 50) (by decide +kernel), List.mem_of_getElem? (i := 408) (by decide +kernel), List.mem_of_getElem? (i := 409) (by decide +kernel)⟩
theorem lw_p7 : lw_okq (⟨"OverInDinghy$Reader", "isWord", "(Ljava/lang/String;)Z"⟩, 9) := ⟨⟨by decide +kernel, by decide +kernel⟩, List.mem_of_getElem? (i := 50) (by decide +kernel), List.mem_of_getElem? (i := 412) (by decide +kernel), List.mem_of_getElem? (i := 413) (by decide +kernel)⟩
theorem lw_p8 : lw_okq (⟨"OverInDinghy$Reader", "refuse", "(II)Z"⟩, 9) := ⟨⟨by decide +kernel, by decide +kernel⟩, List.mem_of_getElem? (i := 50) (by decide +kernel), List.mem_of_getElem? (i := 464) (by decide +kernel), List.mem_of_getElem? (i := 465) (by decide +kernel)⟩
theorem lw_p9 : lw_okq (⟨"OverInDinghy$Reader", "takeNumber", "(II)Z"⟩, 9) := ⟨⟨by decide +kernel, by decide +kernel⟩, List.mem_of_getElem? (i := 50) (by decide +kernel), List.mem_of_getElem? (i := 468) (by decide +kernel), List.mem_of_getElem? (i := 469) (by decide +kernel)⟩
theorem lw_p10 : lw_okq (⟨"OverInDinghy$Reader", "takeSign", "()Z"⟩, 9) := ⟨⟨by decide +kernel, by decide +kernel⟩, List.mem_of_getElem? (i := 50) (by decide +kernel), List.mem_of_getElem? (i := 473) (by decide +kernel), List.mem_of_getElem? (i := 474) (by decide +kernel)⟩
theorem lw_p11 : lw_okq (⟨"OverInDinghy$Reader", "readBoat", "(LOverInDinghy$Club;)Z"⟩, 9) := ⟨⟨by decide +kernel, by decide +kernel⟩, List.mem_of_getElem? (i := 50) (by decide +kernel), List.mem_of_getElem? (i := 478) (by decide +kernel), List.mem_of_getElem? (i := 479) (by decide +kernel)⟩
theorem lw_p12 : lw_okq (⟨"OverInDinghy$Reader", "readHand", "(LOverInDinghy$Club;)Z"⟩, 9) := ⟨⟨by decide +kernel, by decide +kernel⟩, List.mem_of_getElem? (i := 50) (by decide +kernel), List.mem_of_getElem? (i := 482) (by decide +kernel), List.mem_of_getElem? (i := 483) (by decide +kernel)⟩
theorem lw_p13 : lw_okq (⟨"OverInDinghy$Club", "sendAll", "(III)V"⟩, 19) := ⟨⟨by decide +kernel, by decide +kernel⟩, List.mem_of_getElem? (i := 88) (by decide +kernel), List.mem_of_getElem? (i := 530) (by decide +kernel), List.mem_of_getElem? (i := 531) (by decide +kernel)⟩
theorem lw_p14 : lw_okq (⟨"OverInDinghy$Club", "comeUp", "(ILOverInDinghy$Draws;)V"⟩, 19) := ⟨⟨by decide +kernel, by decide +kernel⟩, List.mem_of_getElem? (i := 88) (by decide +kernel), List.mem_of_getElem? (i := 579) (by decide +kernel), List.mem_of_getElem? (i := 580) (by decide +kernel)⟩
theorem lw_p15 : lw_okq (⟨"OverInDinghy$Club", "fillMast", "(I)V"⟩, 19) := ⟨⟨by decide +kernel, by decide +kernel⟩, List.mem_of_getElem? (i := 88) (by decide +kernel), List.mem_of_getElem? (i := 590) (by decide +kernel), List.mem_of_getElem? (i := 591) (by decide +kernel)⟩
def lw_privs_1 : List (MethodName × Nat) := [(⟨"OverInDinghy", "found", "(I)J"⟩, 12), (⟨"OverInDinghy", "fine", "(J)J"⟩, 12), (⟨"OverInDinghy$Reader", "step", "()V"⟩, 9), (⟨"OverInDinghy$Reader", "stepName", "()V"⟩, 9), (⟨"OverInDinghy$Reader", "stepNumber", "()V"⟩, 9), (⟨"OverInDinghy$Reader", "readSea", "(LOverInDinghy$Club;)Z"⟩, 9), (⟨"OverInDinghy$Reader", "takeWord", "(Ljava/lang/String;Z)Z"⟩, 9), (⟨"OverInDinghy$Reader", "isWord", "(Ljava/lang/String;)Z"⟩, 9), (⟨"OverInDinghy$Reader", "refuse", "(II)Z"⟩, 9), (⟨"OverInDinghy$Reader", "takeNumber", "(II)Z"⟩, 9), (⟨"OverInDinghy$Reader", "takeSign", "()Z"⟩, 9), (⟨"OverInDinghy$Reader", "readBoat", "(LOverInDinghy$Club;)Z"⟩, 9), (⟨"OverInDinghy$Reader", "readHand", "(LOverInDinghy$Club;)Z"⟩, 9), (⟨"OverInDinghy$Club", "sendAll", "(III)V"⟩, 19), (⟨"OverInDinghy$Club", "comeUp", "(ILOverInDinghy$Draws;)V"⟩, 19), (⟨"OverInDinghy$Club", "fillMast", "(I)V"⟩, 19)]
theorem lw_r1 : ∀ q ∈ lw_privs_1, lw_okq q := List.forall_mem_cons.mpr ⟨lw_p0, List.forall_mem_cons.mpr ⟨lw_p1, List.forall_mem_cons.mpr ⟨lw_p2, List.forall_mem_cons.mpr ⟨lw_p3, List.forall_mem_cons.mpr ⟨lw_p4, List.forall_mem_cons.mpr ⟨lw_p5, List.forall_mem_cons.mpr ⟨lw_p6, List.forall_mem_cons.mpr ⟨lw_p7, List.forall_mem_cons.mpr ⟨lw_p8, List.forall_mem_cons.mpr ⟨lw_p9, List.forall_mem_cons.mpr ⟨lw_p10, List.forall_mem_cons.mpr ⟨lw_p11, List.forall_mem_cons.mpr ⟨lw_p12, List.forall_mem_cons.mpr ⟨lw_p13, List.forall_mem_cons.mpr ⟨lw_p14, List.forall_mem_cons.mpr ⟨lw_p15, fun _ h => absurd h List.not_mem_nil⟩⟩⟩⟩⟩⟩⟩⟩⟩⟩⟩⟩⟩⟩⟩⟩
theorem lw_p16 : lw_okq (⟨"OverInDinghy$Club", "rideOrBail", "(ILOverInDinghy$Draws;)V"⟩, 19) := ⟨⟨by decide +kernel, by decide +kernel⟩, List.mem_of_getElem? (i := 88) (by decide +kernel), List.mem_of_getElem? (i := 597) (by decide +kernel), List.mem_of_getElem? (i := 598) (by decide +kernel)⟩
theorem lw_p17 : lw_okq (⟨"OverInDinghy$Club", "chill", "(I)V"⟩, 19) := ⟨⟨by decide +kernel, by decide +kernel⟩, List.mem_of_getElem? (i := 88) (by decide +kernel), List.mem_of_getElem? (i := 608) (by decide +kernel), List.mem_of_getElem? (i := 609) (by decide +kernel)⟩
theorem lw_p18 : lw_okq (⟨"OverInDinghy$Search", "nextAble", "(II)I"⟩, 7) := ⟨⟨by decide +kernel, by decide +kernel⟩, List.mem_of_getElem? (i := 205) (by decide +kernel), List.mem_of_getElem? (i := 677) (by decide +kernel), List.mem_of_getElem? (i := 678) (by decide +kernel)⟩
theorem lw_p19 : lw_okq (⟨"OverInDinghy$Search", "keep", "(II)V"⟩, 7) := ⟨⟨by decide +kernel, by decide +kernel⟩, List.mem_of_getElem? (i := 205) (by decide +kernel), List.mem_of_getElem? (i := 682) (by decide +kernel), List.mem_of_getElem? (i := 683) (by decide +kernel)⟩
theorem lw_p20 : lw_okq (⟨"OverInDinghy$Search", "tryRow", "(II)V"⟩, 7) := ⟨⟨by decide +kernel, by decide +kernel⟩, List.mem_of_getElem? (i := 205) (by decide +kernel), List.mem_of_getElem? (i := 690) (by decide +kernel), List.mem_of_getElem? (i := 691) (by decide +kernel)⟩
theorem lw_p21 : lw_okq (⟨"OverInDinghy$Search", "bringBack", "(II)V"⟩, 7) := ⟨⟨by decide +kernel, by decide +kernel⟩, List.mem_of_getElem? (i := 205) (by decide +kernel), List.mem_of_getElem? (i := 694) (by decide +kernel), List.mem_of_getElem? (i := 695) (by decide +kernel)⟩
theorem lw_p22 : lw_okq (⟨"OverInDinghy$Search", "isUpBehind", "(II)Z"⟩, 7) := ⟨⟨by decide +kernel, by decide +kernel⟩, List.mem_of_getElem? (i := 205) (by decide +kernel), List.mem_of_getElem? (i := 701) (by decide +kernel), List.mem_of_getElem? (i := 702) (by decide +kernel)⟩
theorem lw_p23 : lw_okq (⟨"OverInDinghy$Search", "send", "(III)V"⟩, 7) := ⟨⟨by decide +kernel, by decide +kernel⟩, List.mem_of_getElem? (i := 205) (by decide +kernel), List.mem_of_getElem? (i := 705) (by decide +kernel), List.mem_of_getElem? (i := 706) (by decide +kernel)⟩
theorem lw_p24 : lw_okq (⟨"OverInDinghy$Rescue", "insert", "(I)V"⟩, 3) := ⟨⟨by decide +kernel, by decide +kernel⟩, List.mem_of_getElem? (i := 238) (by decide +kernel), List.mem_of_getElem? (i := 751) (by decide +kernel), List.mem_of_getElem? (i := 752) (by decide +kernel)⟩
theorem lw_p25 : lw_okq (⟨"OverInDinghy$Rescue", "sortPair", "(I)V"⟩, 3) := ⟨⟨by decide +kernel, by decide +kernel⟩, List.mem_of_getElem? (i := 238) (by decide +kernel), List.mem_of_getElem? (i := 755) (by decide +kernel), List.mem_of_getElem? (i := 756) (by decide +kernel)⟩
theorem lw_p26 : lw_okq (⟨"OverInDinghy", "imageOf", "(I)LOverInDinghy$Club;"⟩, 12) := ⟨⟨by decide +kernel, by decide +kernel⟩, List.mem_of_getElem? (i := 20) (by decide +kernel), List.mem_of_getElem? (i := 802) (by decide +kernel), List.mem_of_getElem? (i := 803) (by decide +kernel)⟩
theorem lw_p27 : lw_okq (⟨"OverInDinghy$Asks", "leave", "(I)V"⟩, 2) := ⟨⟨by decide +kernel, by decide +kernel⟩, List.mem_of_getElem? (i := 255) (by decide +kernel), List.mem_of_getElem? (i := 849) (by decide +kernel), List.mem_of_getElem? (i := 850) (by decide +kernel)⟩
theorem lw_p28 : lw_okq (⟨"OverInDinghyModel", "finding", "(I)J"⟩, 32) := ⟨⟨by decide +kernel, by decide +kernel⟩, List.mem_of_getElem? (i := 884) (by decide +kernel), List.mem_of_getElem? (i := 1001) (by decide +kernel), List.mem_of_getElem? (i := 1002) (by decide +kernel)⟩
theorem lw_p29 : lw_okq (⟨"OverInDinghyModel", "next", "()V"⟩, 32) := ⟨⟨by decide +kernel, by decide +kernel⟩, List.mem_of_getElem? (i := 884) (by decide +kernel), List.mem_of_getElem? (i := 1029) (by decide +kernel), List.mem_of_getElem? (i := 1030) (by decide +kernel)⟩
theorem lw_p30 : lw_okq (⟨"OverInDinghyModel", "byteAt", "(I)I"⟩, 32) := ⟨⟨by decide +kernel, by decide +kernel⟩, List.mem_of_getElem? (i := 884) (by decide +kernel), List.mem_of_getElem? (i := 1033) (by decide +kernel), List.mem_of_getElem? (i := 1034) (by decide +kernel)⟩
theorem lw_p31 : lw_okq (⟨"OverInDinghyModel", "readSea", "()V"⟩, 32) := ⟨⟨by decide +kernel, by decide +kernel⟩, List.mem_of_getElem? (i := 884) (by decide +kernel), List.mem_of_getElem? (i := 1044) (by decide +kernel), List.mem_of_getElem? (i := 1045) (by decide +kernel)⟩
def lw_privs_2 : List (MethodName × Nat) := [(⟨"OverInDinghy$Club", "rideOrBail", "(ILOverInDinghy$Draws;)V"⟩, 19), (⟨"OverInDinghy$Club", "chill", "(I)V"⟩, 19), (⟨"OverInDinghy$Search", "nextAble", "(II)I"⟩, 7), (⟨"OverInDinghy$Search", "keep", "(II)V"⟩, 7), (⟨"OverInDinghy$Search", "tryRow", "(II)V"⟩, 7), (⟨"OverInDinghy$Search", "bringBack", "(II)V"⟩, 7), (⟨"OverInDinghy$Search", "isUpBehind", "(II)Z"⟩, 7), (⟨"OverInDinghy$Search", "send", "(III)V"⟩, 7), (⟨"OverInDinghy$Rescue", "insert", "(I)V"⟩, 3), (⟨"OverInDinghy$Rescue", "sortPair", "(I)V"⟩, 3), (⟨"OverInDinghy", "imageOf", "(I)LOverInDinghy$Club;"⟩, 12), (⟨"OverInDinghy$Asks", "leave", "(I)V"⟩, 2), (⟨"OverInDinghyModel", "finding", "(I)J"⟩, 32), (⟨"OverInDinghyModel", "next", "()V"⟩, 32), (⟨"OverInDinghyModel", "byteAt", "(I)I"⟩, 32), (⟨"OverInDinghyModel", "readSea", "()V"⟩, 32)]
theorem lw_r2 : ∀ q ∈ lw_privs_2, lw_okq q := List.forall_mem_cons.mpr ⟨lw_p16, List.forall_mem_cons.mpr ⟨lw_p17, List.forall_mem_cons.mpr ⟨lw_p18, List.forall_mem_cons.mpr ⟨lw_p19, List.forall_mem_cons.mpr ⟨lw_p20, List.forall_mem_cons.mpr ⟨lw_p21, List.forall_mem_cons.mpr ⟨lw_p22, List.forall_mem_cons.mpr ⟨lw_p23, List.forall_mem_cons.mpr ⟨lw_p24, List.forall_mem_cons.mpr ⟨lw_p25, List.forall_mem_cons.mpr ⟨lw_p26, List.forall_mem_cons.mpr ⟨lw_p27, List.forall_mem_cons.mpr ⟨lw_p28, List.forall_mem_cons.mpr ⟨lw_p29, List.forall_mem_cons.mpr ⟨lw_p30, List.forall_mem_cons.mpr ⟨lw_p31, fun _ h => absurd h List.not_mem_nil⟩⟩⟩⟩⟩⟩⟩⟩⟩⟩⟩⟩⟩⟩⟩⟩
theorem lw_p32 : lw_okq (⟨"OverInDinghyModel", "word", "()J"⟩, 32) := ⟨⟨by decide +kernel, by decide +kernel⟩, List.mem_of_getElem? (i := 884) (by decide +kernel), List.mem_of_getElem? (i := 1048) (by decide +kernel), List.mem_of_getElem? (i := 1049) (by decide +kernel)⟩
theorem lw_p33 : lw_okq (⟨"OverInDinghyModel", "must", "(Z)V"⟩, 32) := ⟨⟨by decide +kernel, by decide +kernel⟩, List.mem_of_getElem? (i := 884) (by decide +kernel), List.mem_of_getElem? (i := 1053) (by decide +kernel), List.mem_of_getElem? (i := 1054) (by decide +kernel)⟩
theorem lw_p34 : lw_okq (⟨"OverInDinghyModel", "bad", "(I)V"⟩, 32) := ⟨⟨by decide +kernel, by decide +kernel⟩, List.mem_of_getElem? (i := 884) (by decide +kernel), List.mem_of_getElem? (i := 1057) (by decide +kernel), List.mem_of_getElem? (i := 1058) (by decide +kernel)⟩
theorem lw_p35 : lw_okq (⟨"OverInDinghyModel", "number", "(II)I"⟩, 32) := ⟨⟨by decide +kernel, by decide +kernel⟩, List.mem_of_getElem? (i := 884) (by decide +kernel), List.mem_of_getElem? (i := 1061) (by decide +kernel), List.mem_of_getElem? (i := 1062) (by decide +kernel)⟩
theorem lw_p36 : lw_okq (⟨"OverInDinghyModel", "figures", "()I"⟩, 32) := ⟨⟨by decide +kernel, by decide +kernel⟩, List.mem_of_getElem? (i := 884) (by decide +kernel), List.mem_of_getElem? (i := 1065) (by decide +kernel), List.mem_of_getElem? (i := 1066) (by decide +kernel)⟩
theorem lw_p37 : lw_okq (⟨"OverInDinghyModel", "mustEnd", "()V"⟩, 32) := ⟨⟨by decide +kernel, by decide +kernel⟩, List.mem_of_getElem? (i := 884) (by decide +kernel), List.mem_of_getElem? (i := 1070) (by decide +kernel), List.mem_of_getElem? (i := 1071) (by decide +kernel)⟩
theorem lw_p38 : lw_okq (⟨"OverInDinghyModel", "readBoat", "()V"⟩, 32) := ⟨⟨by decide +kernel, by decide +kernel⟩, List.mem_of_getElem? (i := 884) (by decide +kernel), List.mem_of_getElem? (i := 1075) (by decide +kernel), List.mem_of_getElem? (i := 1076) (by decide +kernel)⟩
theorem lw_p39 : lw_okq (⟨"OverInDinghyModel", "begins", "(II)V"⟩, 32) := ⟨⟨by decide +kernel, by decide +kernel⟩, List.mem_of_getElem? (i := 884) (by decide +kernel), List.mem_of_getElem? (i := 1079) (by decide +kernel), List.mem_of_getElem? (i := 1080) (by decide +kernel)⟩
theorem lw_p40 : lw_okq (⟨"OverInDinghyModel", "readHand", "()V"⟩, 32) := ⟨⟨by decide +kernel, by decide +kernel⟩, List.mem_of_getElem? (i := 884) (by decide +kernel), List.mem_of_getElem? (i := 1084) (by decide +kernel), List.mem_of_getElem? (i := 1085) (by decide +kernel)⟩
theorem lw_p41 : lw_okq (⟨"OverInDinghyModel", "handsTold", "(I)I"⟩, 32) := ⟨⟨by decide +kernel, by decide +kernel⟩, List.mem_of_getElem? (i := 884) (by decide +kernel), List.mem_of_getElem? (i := 1088) (by decide +kernel), List.mem_of_getElem? (i := 1089) (by decide +kernel)⟩
theorem lw_p42 : lw_okq (⟨"OverInDinghyModel", "isHand", "(I)Z"⟩, 32) := ⟨⟨by decide +kernel, by decide +kernel⟩, List.mem_of_getElem? (i := 884) (by decide +kernel), List.mem_of_getElem? (i := 1101) (by decide +kernel), List.mem_of_getElem? (i := 1102) (by decide +kernel)⟩
theorem lw_p43 : lw_okq (⟨"OverInDinghyModel", "handOf", "(II)I"⟩, 32) := ⟨⟨by decide +kernel, by decide +kernel⟩, List.mem_of_getElem? (i := 884) (by decide +kernel), List.mem_of_getElem? (i := 1109) (by decide +kernel), List.mem_of_getElem? (i := 1110) (by decide +kernel)⟩
theorem lw_p44 : lw_okq (⟨"OverInDinghyModel", "isUpright", "(I)Z"⟩, 32) := ⟨⟨by decide +kernel, by decide +kernel⟩, List.mem_of_getElem? (i := 884) (by decide +kernel), List.mem_of_getElem? (i := 1113) (by decide +kernel), List.mem_of_getElem? (i := 1114) (by decide +kernel)⟩
theorem lw_p45 : lw_okq (⟨"OverInDinghyModel", "isBoat", "(I)Z"⟩, 32) := ⟨⟨by decide +kernel, by decide +kernel⟩, List.mem_of_getElem? (i := 884) (by decide +kernel), List.mem_of_getElem? (i := 1122) (by decide +kernel), List.mem_of_getElem? (i := 1123) (by decide +kernel)⟩
theorem lw_p46 : lw_okq (⟨"OverInDinghyModel", "tips", "([II)V"⟩, 32) := ⟨⟨by decide +kernel, by decide +kernel⟩, List.mem_of_getElem? (i := 884) (by decide +kernel), List.mem_of_getElem? (i := 1126) (by decide +kernel), List.mem_of_getElem? (i := 1127) (by decide +kernel)⟩
theorem lw_p47 : lw_okq (⟨"OverInDinghyModel", "moveAll", "([IIII)V"⟩, 32) := ⟨⟨by decide +kernel, by decide +kernel⟩, List.mem_of_getElem? (i := 884) (by decide +kernel), List.mem_of_getElem? (i := 1130) (by decide +kernel), List.mem_of_getElem? (i := 1131) (by decide +kernel)⟩
def lw_privs_3 : List (MethodName × Nat) := [(⟨"OverInDinghyModel", "word", "()J"⟩, 32), (⟨"OverInDinghyModel", "must", "(Z)V"⟩, 32), (⟨"OverInDinghyModel", "bad", "(I)V"⟩, 32), (⟨"OverInDinghyModel", "number", "(II)I"⟩, 32), (⟨"OverInDinghyModel", "figures", "()I"⟩, 32), (⟨"OverInDinghyModel", "mustEnd", "()V"⟩, 32), (⟨"OverInDinghyModel", "readBoat", "()V"⟩, 32), (⟨"OverInDinghyModel", "begins", "(II)V"⟩, 32), (⟨"OverInDinghyModel", "readHand", "()V"⟩, 32), (⟨"OverInDinghyModel", "handsTold", "(I)I"⟩, 32), (⟨"OverInDinghyModel", "isHand", "(I)Z"⟩, 32), (⟨"OverInDinghyModel", "handOf", "(II)I"⟩, 32), (⟨"OverInDinghyModel", "isUpright", "(I)Z"⟩, 32), (⟨"OverInDinghyModel", "isBoat", "(I)Z"⟩, 32), (⟨"OverInDinghyModel", "tips", "([II)V"⟩, 32), (⟨"OverInDinghyModel", "moveAll", "([IIII)V"⟩, 32)]
theorem lw_r3 : ∀ q ∈ lw_privs_3, lw_okq q := List.forall_mem_cons.mpr ⟨lw_p32, List.forall_mem_cons.mpr ⟨lw_p33, List.forall_mem_cons.mpr ⟨lw_p34, List.forall_mem_cons.mpr ⟨lw_p35, List.forall_mem_cons.mpr ⟨lw_p36, List.forall_mem_cons.mpr ⟨lw_p37, List.forall_mem_cons.mpr ⟨lw_p38, List.forall_mem_cons.mpr ⟨lw_p39, List.forall_mem_cons.mpr ⟨lw_p40, List.forall_mem_cons.mpr ⟨lw_p41, List.forall_mem_cons.mpr ⟨lw_p42, List.forall_mem_cons.mpr ⟨lw_p43, List.forall_mem_cons.mpr ⟨lw_p44, List.forall_mem_cons.mpr ⟨lw_p45, List.forall_mem_cons.mpr ⟨lw_p46, List.forall_mem_cons.mpr ⟨lw_p47, fun _ h => absurd h List.not_mem_nil⟩⟩⟩⟩⟩⟩⟩⟩⟩⟩⟩⟩⟩⟩⟩⟩
theorem lw_p48 : lw_okq (⟨"OverInDinghyModel", "isOf", "(II)Z"⟩, 32) := ⟨⟨by decide +kernel, by decide +kernel⟩, List.mem_of_getElem? (i := 884) (by decide +kernel), List.mem_of_getElem? (i := 1134) (by decide +kernel), List.mem_of_getElem? (i := 1135) (by decide +kernel)⟩
theorem lw_p49 : lw_okq (⟨"OverInDinghyModel", "tick", "([IIZ)V"⟩, 32) := ⟨⟨by decide +kernel, by decide +kernel⟩, List.mem_of_getElem? (i := 884) (by decide +kernel), List.mem_of_getElem? (i := 1147) (by decide +kernel), List.mem_of_getElem? (i := 1148) (by decide +kernel)⟩
theorem lw_p50 : lw_okq (⟨"OverInDinghyModel", "goUpright", "([IIZ)V"⟩, 32) := ⟨⟨by decide +kernel, by decide +kernel⟩, List.mem_of_getElem? (i := 884) (by decide +kernel), List.mem_of_getElem? (i := 1151) (by decide +kernel), List.mem_of_getElem? (i := 1152) (by decide +kernel)⟩
theorem lw_p51 : lw_okq (⟨"OverInDinghyModel", "draw", "(I)I"⟩, 32) := ⟨⟨by decide +kernel, by decide +kernel⟩, List.mem_of_getElem? (i := 884) (by decide +kernel), List.mem_of_getElem? (i := 1155) (by decide +kernel), List.mem_of_getElem? (i := 1156) (by decide +kernel)⟩
theorem lw_p52 : lw_okq (⟨"OverInDinghyModel", "boatOf", "(II)I"⟩, 32) := ⟨⟨by decide +kernel, by decide +kernel⟩, List.mem_of_getElem? (i := 884) (by decide +kernel), List.mem_of_getElem? (i := 1161) (by decide +kernel), List.mem_of_getElem? (i := 1162) (by decide +kernel)⟩
theorem lw_p53 : lw_okq (⟨"OverInDinghyModel", "weightIn", "([II)I"⟩, 32) := ⟨⟨by decide +kernel, by decide +kernel⟩, List.mem_of_getElem? (i := 884) (by decide +kernel), List.mem_of_getElem? (i := 1165) (by decide +kernel), List.mem_of_getElem? (i := 1166) (by decide +kernel)⟩
theorem lw_p54 : lw_okq (⟨"OverInDinghyModel", "bailers", "([II)I"⟩, 32) := ⟨⟨by decide +kernel, by decide +kernel⟩, List.mem_of_getElem? (i := 884) (by decide +kernel), List.mem_of_getElem? (i := 1169) (by decide +kernel), List.mem_of_getElem? (i := 1170) (by decide +kernel)⟩
theorem lw_p55 : lw_okq (⟨"OverInDinghyModel", "goSided", "([IIZ)V"⟩, 32) := ⟨⟨by decide +kernel, by decide +kernel⟩, List.mem_of_getElem? (i := 884) (by decide +kernel), List.mem_of_getElem? (i := 1173) (by decide +kernel), List.mem_of_getElem? (i := 1174) (by decide +kernel)⟩
theorem lw_p56 : lw_okq (⟨"OverInDinghyModel", "needNow", "([II)I"⟩, 32) := ⟨⟨by decide +kernel, by decide +kernel⟩, List.mem_of_getElem? (i := 884) (by decide +kernel), List.mem_of_getElem? (i := 1177) (by decide +kernel), List.mem_of_getElem? (i := 1178) (by decide +kernel)⟩
theorem lw_p57 : lw_okq (⟨"OverInDinghyModel", "hasBow", "([II)Z"⟩, 32) := ⟨⟨by decide +kernel, by decide +kernel⟩, List.mem_of_getElem? (i := 884) (by decide +kernel), List.mem_of_getElem? (i := 1181) (by decide +kernel), List.mem_of_getElem? (i := 1182) (by decide +kernel)⟩
theorem lw_p58 : lw_okq (⟨"OverInDinghyModel", "need", "(IIZ)I"⟩, 32) := ⟨⟨by decide +kernel, by decide +kernel⟩, List.mem_of_getElem? (i := 884) (by decide +kernel), List.mem_of_getElem? (i := 1185) (by decide +kernel), List.mem_of_getElem? (i := 1186) (by decide +kernel)⟩
theorem lw_p59 : lw_okq (⟨"OverInDinghyModel", "lever", "([II)I"⟩, 32) := ⟨⟨by decide +kernel, by decide +kernel⟩, List.mem_of_getElem? (i := 884) (by decide +kernel), List.mem_of_getElem? (i := 1189) (by decide +kernel), List.mem_of_getElem? (i := 1190) (by decide +kernel)⟩
theorem lw_p60 : lw_okq (⟨"OverInDinghyModel", "goRound", "([II)V"⟩, 32) := ⟨⟨by decide +kernel, by decide +kernel⟩, List.mem_of_getElem? (i := 884) (by decide +kernel), List.mem_of_getElem? (i := 1193) (by decide +kernel), List.mem_of_getElem? (i := 1194) (by decide +kernel)⟩
theorem lw_p61 : lw_okq (⟨"OverInDinghyModel", "getsCold", "([II)V"⟩, 32) := ⟨⟨by decide +kernel, by decide +kernel⟩, List.mem_of_getElem? (i := 884) (by decide +kernel), List.mem_of_getElem? (i := 1197) (by decide +kernel), List.mem_of_getElem? (i := 1198) (by decide +kernel)⟩
theorem lw_p62 : lw_okq (⟨"OverInDinghyModel", "coldOf", "(I)I"⟩, 32) := ⟨⟨by decide +kernel, by decide +kernel⟩, List.mem_of_getElem? (i := 884) (by decide +kernel), List.mem_of_getElem? (i := 1201) (by decide +kernel), List.mem_of_getElem? (i := 1202) (by decide +kernel)⟩
theorem lw_p63 : lw_okq (⟨"OverInDinghyModel", "rightsBy", "(IIII)Z"⟩, 32) := ⟨⟨by decide +kernel, by decide +kernel⟩, List.mem_of_getElem? (i := 884) (by decide +kernel), List.mem_of_getElem? (i := 1218) (by decide +kernel), List.mem_of_getElem? (i := 1219) (by decide +kernel)⟩
def lw_privs_4 : List (MethodName × Nat) := [(⟨"OverInDinghyModel", "isOf", "(II)Z"⟩, 32), (⟨"OverInDinghyModel", "tick", "([IIZ)V"⟩, 32), (⟨"OverInDinghyModel", "goUpright", "([IIZ)V"⟩, 32), (⟨"OverInDinghyModel", "draw", "(I)I"⟩, 32), (⟨"OverInDinghyModel", "boatOf", "(II)I"⟩, 32), (⟨"OverInDinghyModel", "weightIn", "([II)I"⟩, 32), (⟨"OverInDinghyModel", "bailers", "([II)I"⟩, 32), (⟨"OverInDinghyModel", "goSided", "([IIZ)V"⟩, 32), (⟨"OverInDinghyModel", "needNow", "([II)I"⟩, 32), (⟨"OverInDinghyModel", "hasBow", "([II)Z"⟩, 32), (⟨"OverInDinghyModel", "need", "(IIZ)I"⟩, 32), (⟨"OverInDinghyModel", "lever", "([II)I"⟩, 32), (⟨"OverInDinghyModel", "goRound", "([II)V"⟩, 32), (⟨"OverInDinghyModel", "getsCold", "([II)V"⟩, 32), (⟨"OverInDinghyModel", "coldOf", "(I)I"⟩, 32), (⟨"OverInDinghyModel", "rightsBy", "(IIII)Z"⟩, 32)]
theorem lw_r4 : ∀ q ∈ lw_privs_4, lw_okq q := List.forall_mem_cons.mpr ⟨lw_p48, List.forall_mem_cons.mpr ⟨lw_p49, List.forall_mem_cons.mpr ⟨lw_p50, List.forall_mem_cons.mpr ⟨lw_p51, List.forall_mem_cons.mpr ⟨lw_p52, List.forall_mem_cons.mpr ⟨lw_p53, List.forall_mem_cons.mpr ⟨lw_p54, List.forall_mem_cons.mpr ⟨lw_p55, List.forall_mem_cons.mpr ⟨lw_p56, List.forall_mem_cons.mpr ⟨lw_p57, List.forall_mem_cons.mpr ⟨lw_p58, List.forall_mem_cons.mpr ⟨lw_p59, List.forall_mem_cons.mpr ⟨lw_p60, List.forall_mem_cons.mpr ⟨lw_p61, List.forall_mem_cons.mpr ⟨lw_p62, List.forall_mem_cons.mpr ⟨lw_p63, fun _ h => absurd h List.not_mem_nil⟩⟩⟩⟩⟩⟩⟩⟩⟩⟩⟩⟩⟩⟩⟩⟩
theorem lw_p64 : lw_okq (⟨"OverInDinghyModel", "layTwo", "(I)Z"⟩, 32) := ⟨⟨by decide +kernel, by decide +kernel⟩, List.mem_of_getElem? (i := 884) (by decide +kernel), List.mem_of_getElem? (i := 1235) (by decide +kernel), List.mem_of_getElem? (i := 1236) (by decide +kernel)⟩
theorem lw_p65 : lw_okq (⟨"OverInDinghyModel", "ticksBy", "(II)I"⟩, 32) := ⟨⟨by decide +kernel, by decide +kernel⟩, List.mem_of_getElem? (i := 884) (by decide +kernel), List.mem_of_getElem? (i := 1239) (by decide +kernel), List.mem_of_getElem? (i := 1240) (by decide +kernel)⟩
theorem lw_p66 : lw_okq (⟨"OverInDinghyModel", "goesTo", "(III)V"⟩, 32) := ⟨⟨by decide +kernel, by decide +kernel⟩, List.mem_of_getElem? (i := 884) (by decide +kernel), List.mem_of_getElem? (i := 1243) (by decide +kernel), List.mem_of_getElem? (i := 1244) (by decide +kernel)⟩
theorem lw_p67 : lw_okq (⟨"OverInDinghyModel", "harmBy", "(III)I"⟩, 32) := ⟨⟨by decide +kernel, by decide +kernel⟩, List.mem_of_getElem? (i := 884) (by decide +kernel), List.mem_of_getElem? (i := 1265) (by decide +kernel), List.mem_of_getElem? (i := 1266) (by decide +kernel)⟩
theorem lw_p68 : lw_okq (⟨"OverInDinghyModel", "nextOrder", "(I)Z"⟩, 32) := ⟨⟨by decide +kernel, by decide +kernel⟩, List.mem_of_getElem? (i := 884) (by decide +kernel), List.mem_of_getElem? (i := 1269) (by decide +kernel), List.mem_of_getElem? (i := 1270) (by decide +kernel)⟩
theorem lw_p69 : lw_okq (⟨"OverInDinghyModel", "swap", "(II)V"⟩, 32) := ⟨⟨by decide +kernel, by decide +kernel⟩, List.mem_of_getElem? (i := 884) (by decide +kernel), List.mem_of_getElem? (i := 1273) (by decide +kernel), List.mem_of_getElem? (i := 1274) (by decide +kernel)⟩
theorem lw_p70 : lw_okq (⟨"OverInDinghyModel", "kindOf", "(I)I"⟩, 32) := ⟨⟨by decide +kernel, by decide +kernel⟩, List.mem_of_getElem? (i := 884) (by decide +kernel), List.mem_of_getElem? (i := 1316) (by decide +kernel), List.mem_of_getElem? (i := 1317) (by decide +kernel)⟩
theorem lw_p71 : lw_okq (⟨"OverInDinghyModel", "lyingSize", "(II)I"⟩, 32) := ⟨⟨by decide +kernel, by decide +kernel⟩, List.mem_of_getElem? (i := 884) (by decide +kernel), List.mem_of_getElem? (i := 1332) (by decide +kernel), List.mem_of_getElem? (i := 1333) (by decide +kernel)⟩
theorem lw_p72 : lw_okq (⟨"OverInDinghyModel", "began", "(I)V"⟩, 32) := ⟨⟨by decide +kernel, by decide +kernel⟩, List.mem_of_getElem? (i := 884) (by decide +kernel), List.mem_of_getElem? (i := 1336) (by decide +kernel), List.mem_of_getElem? (i := 1337) (by decide +kernel)⟩
theorem lw_p73 : lw_okq (⟨"OverInDinghyModel", "plainSize", "(I)I"⟩, 32) := ⟨⟨by decide +kernel, by decide +kernel⟩, List.mem_of_getElem? (i := 884) (by decide +kernel), List.mem_of_getElem? (i := 1340) (by decide +kernel), List.mem_of_getElem? (i := 1341) (by decide +kernel)⟩
theorem lw_p74 : lw_okq (⟨"OverInDinghyModel", "lyingMark", "(II)I"⟩, 32) := ⟨⟨by decide +kernel, by decide +kernel⟩, List.mem_of_getElem? (i := 884) (by decide +kernel), List.mem_of_getElem? (i := 1344) (by decide +kernel), List.mem_of_getElem? (i := 1345) (by decide +kernel)⟩
theorem lw_p75 : lw_okq (⟨"OverInDinghyModel", "otherSize", "(II)I"⟩, 32) := ⟨⟨by decide +kernel, by decide +kernel⟩, List.mem_of_getElem? (i := 884) (by decide +kernel), List.mem_of_getElem? (i := 1348) (by decide +kernel), List.mem_of_getElem? (i := 1349) (by decide +kernel)⟩
theorem lw_p76 : lw_okq (⟨"OverInDinghyModel", "otherMark", "(II)I"⟩, 32) := ⟨⟨by decide +kernel, by decide +kernel⟩, List.mem_of_getElem? (i := 884) (by decide +kernel), List.mem_of_getElem? (i := 1352) (by decide +kernel), List.mem_of_getElem? (i := 1353) (by decide +kernel)⟩
def lw_privs_5 : List (MethodName × Nat) := [(⟨"OverInDinghyModel", "layTwo", "(I)Z"⟩, 32), (⟨"OverInDinghyModel", "ticksBy", "(II)I"⟩, 32), (⟨"OverInDinghyModel", "goesTo", "(III)V"⟩, 32), (⟨"OverInDinghyModel", "harmBy", "(III)I"⟩, 32), (⟨"OverInDinghyModel", "nextOrder", "(I)Z"⟩, 32), (⟨"OverInDinghyModel", "swap", "(II)V"⟩, 32), (⟨"OverInDinghyModel", "kindOf", "(I)I"⟩, 32), (⟨"OverInDinghyModel", "lyingSize", "(II)I"⟩, 32), (⟨"OverInDinghyModel", "began", "(I)V"⟩, 32), (⟨"OverInDinghyModel", "plainSize", "(I)I"⟩, 32), (⟨"OverInDinghyModel", "lyingMark", "(II)I"⟩, 32), (⟨"OverInDinghyModel", "otherSize", "(II)I"⟩, 32), (⟨"OverInDinghyModel", "otherMark", "(II)I"⟩, 32)]
theorem lw_r5 : ∀ q ∈ lw_privs_5, lw_okq q := List.forall_mem_cons.mpr ⟨lw_p64, List.forall_mem_cons.mpr ⟨lw_p65, List.forall_mem_cons.mpr ⟨lw_p66, List.forall_mem_cons.mpr ⟨lw_p67, List.forall_mem_cons.mpr ⟨lw_p68, List.forall_mem_cons.mpr ⟨lw_p69, List.forall_mem_cons.mpr ⟨lw_p70, List.forall_mem_cons.mpr ⟨lw_p71, List.forall_mem_cons.mpr ⟨lw_p72, List.forall_mem_cons.mpr ⟨lw_p73, List.forall_mem_cons.mpr ⟨lw_p74, List.forall_mem_cons.mpr ⟨lw_p75, List.forall_mem_cons.mpr ⟨lw_p76, fun _ h => absurd h List.not_mem_nil⟩⟩⟩⟩⟩⟩⟩⟩⟩⟩⟩⟩⟩
def lw_privs : List (MethodName × Nat) := lw_privs_1 ++ (lw_privs_2 ++ (lw_privs_3 ++ (lw_privs_4 ++ (lw_privs_5))))
def lw_tbl : List Cond := k2_sels lw_privs ++ tables_1
theorem lw_privs_ok : ∀ q ∈ lw_privs, lw_okq q := by
  show ∀ q ∈ lw_privs_1 ++ (lw_privs_2 ++ (lw_privs_3 ++ (lw_privs_4 ++ (lw_privs_5)))), lw_okq q
  exact List.forall_mem_append.mpr ⟨lw_r1, List.forall_mem_append.mpr ⟨lw_r2, List.forall_mem_append.mpr ⟨lw_r3, List.forall_mem_append.mpr ⟨lw_r4, lw_r5⟩⟩⟩⟩

def xg_tbl : List Cond := lw_tbl.filter goodWord
end
section
def xcn : List String := ["OverInDinghy", "OverInDinghy$Asks", "OverInDinghy$Club", "OverInDinghy$Draws", "OverInDinghy$Foretold", "OverInDinghy$Odds", "OverInDinghy$Reader", "OverInDinghy$Rescue", "OverInDinghy$Rows", "OverInDinghy$Search", "OverInDinghyModel", "OverInDinghyLaw", "java/lang/Math", "java/lang/String", "java/lang/StringLatin1", "java/util/Arrays", "jdk/internal/util/Preconditions", "java/lang/StringUTF16"]
def cn (o : Nat) : String := xcn.getD o ""
def xF0 : u_T := fun k => match k with
  | 0 => ("OverInDinghy$Asks", "begun", "[I", true)
  | _ => ("OverInDinghy$Asks", "length", "I", false)
def xT0 : Nat → FieldType := fun k => match k with
  | 0 => .array .int
  | _ => .int
def xF1 : u_T := fun k => match k with
  | 0 => ("OverInDinghy$Club", "warmth", "I", false)
  | 1 => ("OverInDinghy$Club", "wind", "I", false)
  | 2 => ("OverInDinghy$Club", "mud", "Z", false)
  | 3 => ("OverInDinghy$Club", "ticks", "I", false)
  | 4 => ("OverInDinghy$Club", "boats", "I", false)
  | 5 => ("OverInDinghy$Club", "hands", "I", false)
  | 6 => ("OverInDinghy$Club", "beam", "[I", true)
  | 7 => ("OverInDinghy$Club", "sail", "[I", true)
  | 8 => ("OverInDinghy$Club", "air", "[I", true)
  | 9 => ("OverInDinghy$Club", "floats", "[I", true)
  | 10 => ("OverInDinghy$Club", "how", "[I", true)
  | 11 => ("OverInDinghy$Club", "mast", "[I", true)
  | 12 => ("OverInDinghy$Club", "water", "[I", true)
  | 13 => ("OverInDinghy$Club", "sided", "[I", true)
  | 14 => ("OverInDinghy$Club", "boatOf", "[I", true)
  | 15 => ("OverInDinghy$Club", "weight", "[I", true)
  | 16 => ("OverInDinghy$Club", "lasts", "[I", true)
  | 17 => ("OverInDinghy$Club", "spot", "[I", true)
  | _ => ("OverInDinghy$Club", "grip", "[I", true)
def xT1 : Nat → FieldType := fun k => match k with
  | 0 => .int
  | 1 => .int
  | 2 => .boolean
  | 3 => .int
  | 4 => .int
  | 5 => .int
  | 6 => .array .int
  | 7 => .array .int
  | 8 => .array .int
  | 9 => .array .int
  | 10 => .array .int
  | 11 => .array .int
  | 12 => .array .int
  | 13 => .array .int
  | 14 => .array .int
  | 15 => .array .int
  | 16 => .array .int
  | 17 => .array .int
  | _ => .array .int
def xF2 : u_T := fun k => match k with
  | 0 => ("OverInDinghy$Draws", "still", "Z", false)
  | _ => ("OverInDinghy$Draws", "x", "J", false)
def xT2 : Nat → FieldType := fun k => match k with
  | 0 => .boolean
  | _ => .long
def xF3 : u_T := fun k => match k with
  | 0 => ("OverInDinghy$Reader", "tape", "[B", true)
  | 1 => ("OverInDinghy$Reader", "length", "I", false)
  | 2 => ("OverInDinghy$Reader", "next", "I", false)
  | 3 => ("OverInDinghy$Reader", "start", "I", false)
  | 4 => ("OverInDinghy$Reader", "token", "I", false)
  | 5 => ("OverInDinghy$Reader", "value", "I", false)
  | 6 => ("OverInDinghy$Reader", "taken", "I", false)
  | 7 => ("OverInDinghy$Reader", "wrong", "I", false)
  | _ => ("OverInDinghy$Reader", "wrongAt", "I", false)
def xT3 : Nat → FieldType := fun k => match k with
  | 0 => .array .byte
  | 1 => .int
  | 2 => .int
  | 3 => .int
  | 4 => .int
  | 5 => .int
  | 6 => .int
  | 7 => .int
  | _ => .int
def xF4 : u_T := fun k => match k with
  | 0 => ("OverInDinghy$Rescue", "order", "[I", true)
  | 1 => ("OverInDinghy$Rescue", "odds", "[I", true)
  | _ => ("OverInDinghy$Rescue", "boats", "I", false)
def xT4 : Nat → FieldType := fun k => match k with
  | 0 => .array .int
  | 1 => .array .int
  | _ => .int
def xF5 : u_T := fun k => match k with
  | 0 => ("OverInDinghy$Rows", "lane", "[I", true)
  | 1 => ("OverInDinghy$Rows", "size", "[I", true)
  | _ => ("OverInDinghy$Rows", "items", "[I", true)
def xT5 : Nat → FieldType := fun k => match k with
  | 0 => .array .int
  | 1 => .array .int
  | _ => .array .int
def xF6 : u_T := fun k => match k with
  | 0 => ("OverInDinghy$Search", "trial", "LOverInDinghy$Club;", true)
  | 1 => ("OverInDinghy$Search", "still", "LOverInDinghy$Draws;", true)
  | 2 => ("OverInDinghy$Search", "kept", "[I", true)
  | 3 => ("OverInDinghy$Search", "one", "I", false)
  | 4 => ("OverInDinghy$Search", "two", "I", false)
  | 5 => ("OverInDinghy$Search", "fewest", "I", false)
  | _ => ("OverInDinghy$Search", "places", "I", false)
def xT6 : Nat → FieldType := fun k => match k with
  | 0 => .object "OverInDinghy$Club"
  | 1 => .object "OverInDinghy$Draws"
  | 2 => .array .int
  | 3 => .int
  | 4 => .int
  | 5 => .int
  | _ => .int
def xF7 : u_T := fun k => match k with
  | 0 => ("OverInDinghy", "rows", "LOverInDinghy$Rows;", true)
  | 1 => ("OverInDinghy", "reader", "LOverInDinghy$Reader;", true)
  | 2 => ("OverInDinghy", "now", "LOverInDinghy$Club;", true)
  | 3 => ("OverInDinghy", "draft", "LOverInDinghy$Club;", true)
  | 4 => ("OverInDinghy", "imageA", "LOverInDinghy$Club;", true)
  | 5 => ("OverInDinghy", "imageB", "LOverInDinghy$Club;", true)
  | 6 => ("OverInDinghy", "draws", "LOverInDinghy$Draws;", true)
  | 7 => ("OverInDinghy", "search", "LOverInDinghy$Search;", true)
  | 8 => ("OverInDinghy", "rescue", "LOverInDinghy$Rescue;", true)
  | 9 => ("OverInDinghy", "asks", "LOverInDinghy$Asks;", true)
  | 10 => ("OverInDinghy", "lastFault", "I", false)
  | _ => ("OverInDinghy", "lastFinding", "I", false)
def xT7 : Nat → FieldType := fun k => match k with
  | 0 => .object "OverInDinghy$Rows"
  | 1 => .object "OverInDinghy$Reader"
  | 2 => .object "OverInDinghy$Club"
  | 3 => .object "OverInDinghy$Club"
  | 4 => .object "OverInDinghy$Club"
  | 5 => .object "OverInDinghy$Club"
  | 6 => .object "OverInDinghy$Draws"
  | 7 => .object "OverInDinghy$Search"
  | 8 => .object "OverInDinghy$Rescue"
  | 9 => .object "OverInDinghy$Asks"
  | 10 => .int
  | _ => .int
def xF8 : u_T := fun k => match k with
  | 0 => ("OverInDinghyModel", "thrown", "I", false)
  | 1 => ("OverInDinghyModel", "status", "I", false)
  | 2 => ("OverInDinghyModel", "lane", "[I", true)
  | 3 => ("OverInDinghyModel", "many", "[I", true)
  | 4 => ("OverInDinghyModel", "item", "[I", true)
  | 5 => ("OverInDinghyModel", "club", "[I", true)
  | 6 => ("OverInDinghyModel", "fresh", "[I", true)
  | 7 => ("OverInDinghyModel", "isThere", "Z", false)
  | 8 => ("OverInDinghyModel", "now", "[I", true)
  | 9 => ("OverInDinghyModel", "tape", "[I", true)
  | 10 => ("OverInDinghyModel", "taped", "I", false)
  | 11 => ("OverInDinghyModel", "latest", "I", false)
  | 12 => ("OverInDinghyModel", "length", "I", false)
  | 13 => ("OverInDinghyModel", "cursor", "I", false)
  | 14 => ("OverInDinghyModel", "token", "I", false)
  | 15 => ("OverInDinghyModel", "start", "I", false)
  | 16 => ("OverInDinghyModel", "till", "I", false)
  | 17 => ("OverInDinghyModel", "fault", "I", false)
  | 18 => ("OverInDinghyModel", "faultAt", "I", false)
  | 19 => ("OverInDinghyModel", "drawn", "J", false)
  | 20 => ("OverInDinghyModel", "tried", "[I", true)
  | 21 => ("OverInDinghyModel", "one", "I", false)
  | 22 => ("OverInDinghyModel", "other", "I", false)
  | 23 => ("OverInDinghyModel", "bestTicks", "I", false)
  | 24 => ("OverInDinghyModel", "bestFirst", "I", false)
  | 25 => ("OverInDinghyModel", "order", "[I", true)
  | 26 => ("OverInDinghyModel", "bestOrder", "[I", true)
  | 27 => ("OverInDinghyModel", "isKept", "[Z", true)
  | 28 => ("OverInDinghyModel", "keptClub", "[I", true)
  | 29 => ("OverInDinghyModel", "keptNow", "[I", true)
  | 30 => ("OverInDinghyModel", "trace", "[I", true)
  | _ => ("OverInDinghyModel", "traced", "I", false)
def xT8 : Nat → FieldType := fun k => match k with
  | 0 => .int
  | 1 => .int
  | 2 => .array .int
  | 3 => .array .int
  | 4 => .array .int
  | 5 => .array .int
  | 6 => .array .int
  | 7 => .boolean
  | 8 => .array .int
  | 9 => .array .int
  | 10 => .int
  | 11 => .int
  | 12 => .int
  | 13 => .int
  | 14 => .int
  | 15 => .int
  | 16 => .int
  | 17 => .int
  | 18 => .int
  | 19 => .long
  | 20 => .array .int
  | 21 => .int
  | 22 => .int
  | 23 => .int
  | 24 => .int
  | 25 => .array .int
  | 26 => .array .int
  | 27 => .array .boolean
  | 28 => .array .int
  | 29 => .array .int
  | 30 => .array .int
  | _ => .int
abbrev xcl : List vw_C := [("OverInDinghy$Asks", xF0, 2), ("OverInDinghy$Club", xF1, 19), ("OverInDinghy$Draws", xF2, 2), ("OverInDinghy$Reader", xF3, 9), ("OverInDinghy$Rescue", xF4, 3), ("OverInDinghy$Rows", xF5, 3), ("OverInDinghy$Search", xF6, 7), ("OverInDinghy", xF7, 12), ("OverInDinghyModel", xF8, 32)]
def xty (ci : Nat) : Nat → FieldType := match ci with
  | 0 => xT0
  | 1 => xT1
  | 2 => xT2
  | 3 => xT3
  | 4 => xT4
  | 5 => xT5
  | 6 => xT6
  | 7 => xT7
  | _ => xT8
def cokE (q : vw_C) (ty : Nat → FieldType) : Prop := (∀ w ∈ u_ws q.1 q.2.1 q.2.2, w ∈ xg_tbl) ∧ (∀ k, k < q.2.2 → parseFieldDescriptor (q.2.1 k).2.2.1 = some (ty k)) ∧ (∀ a, a < q.2.2 → ∀ b, b < q.2.2 → a ≠ b → (q.2.1 a).2.1 ≠ (q.2.1 b).2.1)
theorem xg_of {w : Cond} (h : w ∈ lw_tbl) (g : goodWord w = true) : w ∈ xg_tbl := List.mem_filter.mpr ⟨h, g⟩
theorem xg_good : ∀ w ∈ xg_tbl, goodWord w = true := fun w h => (List.mem_filter.mp h).2
theorem cok0 : cokE ("OverInDinghy$Asks", xF0, 2) xT0 := ⟨fun w h => xg_of ((by decide +kernel : ∀ w ∈ u_ws "OverInDinghy$Asks" xF0 2, w ∈ lw_tbl) w h) ((by decide +kernel : ∀ w ∈ u_ws "OverInDinghy$Asks" xF0 2, goodWord w = true) w h), by decide +kernel, by decide +kernel⟩
theorem cok1 : cokE ("OverInDinghy$Club", xF1, 19) xT1 := ⟨fun w h => xg_of ((by decide +kernel : ∀ w ∈ u_ws "OverInDinghy$Club" xF1 19, w ∈ lw_tbl) w h) ((by decide +kernel : ∀ w ∈ u_ws "OverInDinghy$Club" xF1 19, goodWord w = true) w h), by decide +kernel, by decide +kernel⟩
theorem cok2 : cokE ("OverInDinghy$Draws", xF2, 2) xT2 := ⟨fun w h => xg_of ((by decide +kernel : ∀ w ∈ u_ws "OverInDinghy$Draws" xF2 2, w ∈ lw_tbl) w h) ((by decide +kernel : ∀ w ∈ u_ws "OverInDinghy$Draws" xF2 2, goodWord w = true) w h), by decide +kernel, by decide +kernel⟩
theorem cok3 : cokE ("OverInDinghy$Reader", xF3, 9) xT3 := ⟨fun w h => xg_of ((by decide +kernel : ∀ w ∈ u_ws "OverInDinghy$Reader" xF3 9, w ∈ lw_tbl) w h) ((by decide +kernel : ∀ w ∈ u_ws "OverInDinghy$Reader" xF3 9, goodWord w = true) w h), by decide +kernel, by decide +kernel⟩
theorem cok4 : cokE ("OverInDinghy$Rescue", xF4, 3) xT4 := ⟨fun w h => xg_of ((by decide +kernel : ∀ w ∈ u_ws "OverInDinghy$Rescue" xF4 3, w ∈ lw_tbl) w h) ((by decide +kernel : ∀ w ∈ u_ws "OverInDinghy$Rescue" xF4 3, goodWord w = true) w h), by decide +kernel, by decide +kernel⟩
theorem cok5 : cokE ("OverInDinghy$Rows", xF5, 3) xT5 := ⟨fun w h => xg_of ((by decide +kernel : ∀ w ∈ u_ws "OverInDinghy$Rows" xF5 3, w ∈ lw_tbl) w h) ((by decide +kernel : ∀ w ∈ u_ws "OverInDinghy$Rows" xF5 3, goodWord w = true) w h), by decide +kernel, by decide +kernel⟩
theorem cok6 : cokE ("OverInDinghy$Search", xF6, 7) xT6 := ⟨fun w h => xg_of ((by decide +kernel : ∀ w ∈ u_ws "OverInDinghy$Search" xF6 7, w ∈ lw_tbl) w h) ((by decide +kernel : ∀ w ∈ u_ws "OverInDinghy$Search" xF6 7, goodWord w = true) w h), by decide +kernel, by decide +kernel⟩
theorem cok7 : cokE ("OverInDinghy", xF7, 12) xT7 := ⟨fun w h => xg_of ((by decide +kernel : ∀ w ∈ u_ws "OverInDinghy" xF7 12, w ∈ lw_tbl) w h) ((by decide +kernel : ∀ w ∈ u_ws "OverInDinghy" xF7 12, goodWord w = true) w h), by decide +kernel, by decide +kernel⟩
theorem cok8 : cokE ("OverInDinghyModel", xF8, 32) xT8 := ⟨fun w h => xg_of ((by decide +kernel : ∀ w ∈ u_ws "OverInDinghyModel" xF8 32, w ∈ lw_tbl) w h) ((by decide +kernel : ∀ w ∈ u_ws "OverInDinghyModel" xF8 32, goodWord w = true) w h), by decide +kernel, by decide +kernel⟩
theorem xcl_ok : ∀ (ci : Nat) (q : vw_C), xcl[ci]? = some q → cokE q (xty ci) := by
  intro ci q h
  match ci, h with
  | 0, h => cases h; exact cok0
  | 1, h => cases h; exact cok1
  | 2, h => cases h; exact cok2
  | 3, h => cases h; exact cok3
  | 4, h => cases h; exact cok4
  | 5, h => cases h; exact cok5
  | 6, h => cases h; exact cok6
  | 7, h => cases h; exact cok7
  | 8, h => cases h; exact cok8
  | ci + 9, h => simp [xcl] at h
end
section
abbrev xME : Type := MethodName × ByteArray × Nat × Option FieldType × Nat × Nat × Nat × Nat
/-- name, bytes, locals, answer, own class, height, parameters, kind (0 static, 1 virtual, 2 none of ours) -/
def mokE (e : xME) : Prop := e.2.2.2.2.2.2.2 = 2 ∨ (Cond.code e.1 e.2.1 e.2.2.1 e.2.2.2.1 ∈ lw_tbl ∧ (Cond.initialized e.1.cls ∈ lw_tbl ∧ plainName e.1.cls = true ∧ cn e.2.2.2.2.1 = e.1.cls ∧ e.2.2.1 ≤ 40) ∧ (e.1.cls ≠ "java/lang/invoke/MethodHandle" ∧ e.1.cls ≠ "java/lang/invoke/VarHandle" ∧ (parseMethodDescriptor e.1.desc).map (fun d => d.parameters.length) = some e.2.2.2.2.2.2.1) ∧ ((e.2.2.2.2.2.2.2 = 0 ∧ Cond.static e.1 ∈ lw_tbl) ∨ (e.2.2.2.2.2.2.2 = 1 ∧ Cond.instanceMethod e.1 ∈ lw_tbl ∧ Cond.selects e.1.cls e.1 e.1 ∈ lw_tbl)))
def xe0 : xME := (⟨"OverInDinghy", "<init>", "()V"⟩, prog_1_method_1_code, 1, none, 0, 0, 0, 2)
theorem xm0 : mokE xe0 := Or.inl rfl
def xe1 : xME := (⟨"OverInDinghy$Rows", "<init>", "()V"⟩, prog_9_method_1_code, 1, none, 8, 1, 0, 2)
theorem xm1 : mokE xe1 := Or.inl rfl
def xe2 : xME := (⟨"java/util/Arrays", "fill", "([II)V"⟩, prog_18_method_103_code, 4, none, 15, 0, 2, 0)
set_option maxRecDepth 30000 in
theorem xm2 : mokE xe2 := Or.inr ⟨List.mem_of_getElem? (i := 112) rfl, ⟨List.mem_of_getElem? (i := 80) (by decide +kernel), by decide +kernel, by decide +kernel, by decide +kernel⟩, by decide +kernel, Or.inl ⟨rfl, List.mem_of_getElem? (i := 111) (by decide +kernel)⟩⟩
def xe3 : xME := (⟨"OverInDinghy$Reader", "<init>", "()V"⟩, prog_7_method_1_code, 1, none, 6, 0, 0, 2)
theorem xm3 : mokE xe3 := Or.inl rfl
def xe4 : xME := (⟨"OverInDinghy$Club", "<init>", "()V"⟩, prog_3_method_1_code, 1, none, 2, 0, 0, 2)
theorem xm4 : mokE xe4 := Or.inl rfl
def xe5 : xME := (⟨"OverInDinghy$Draws", "<init>", "()V"⟩, prog_4_method_1_code, 1, none, 3, 0, 0, 2)
theorem xm5 : mokE xe5 := Or.inl rfl
def xe6 : xME := (⟨"OverInDinghy$Search", "<init>", "()V"⟩, prog_10_method_1_code, 1, none, 9, 0, 0, 2)
theorem xm6 : mokE xe6 := Or.inl rfl
def xe7 : xME := (⟨"OverInDinghy$Rescue", "<init>", "()V"⟩, prog_8_method_1_code, 1, none, 7, 0, 0, 2)
theorem xm7 : mokE xe7 := Or.inl rfl
def xe8 : xME := (⟨"OverInDinghy$Asks", "<init>", "()V"⟩, prog_2_method_1_code, 1, none, 1, 0, 0, 2)
theorem xm8 : mokE xe8 := Or.inl rfl
def xe9 : xME := (⟨"OverInDinghy", "row", "(III)J"⟩, prog_1_method_2_code, 4, (some .long), 0, 1, 3, 1)
set_option maxRecDepth 30000 in
theorem xm9 : mokE xe9 := Or.inr ⟨List.mem_of_getElem? (i := 386) rfl, ⟨List.mem_of_getElem? (i := 78) (by decide +kernel), by decide +kernel, by decide +kernel, by decide +kernel⟩, by decide +kernel, Or.inr ⟨rfl, List.mem_of_getElem? (i := 384) (by decide +kernel), List.mem_of_getElem? (i := 385) (by decide +kernel)⟩⟩
def xe10 : xME := (⟨"OverInDinghy$Rows", "isRow", "(I)Z"⟩, prog_9_method_2_code, 1, (some .boolean), 8, 0, 1, 0)
set_option maxRecDepth 30000 in
theorem xm10 : mokE xe10 := Or.inr ⟨List.mem_of_getElem? (i := 389) rfl, ⟨List.mem_of_getElem? (i := 79) (by decide +kernel), by decide +kernel, by decide +kernel, by decide +kernel⟩, by decide +kernel, Or.inl ⟨rfl, List.mem_of_getElem? (i := 388) (by decide +kernel)⟩⟩
def xe11 : xME := (⟨"OverInDinghy", "found", "(I)J"⟩, prog_1_method_32_code, 2, (some .long), 0, 0, 1, 1)
set_option maxRecDepth 30000 in
theorem xm11 : mokE xe11 := Or.inr ⟨List.mem_of_getElem? (i := 394) rfl, ⟨List.mem_of_getElem? (i := 78) (by decide +kernel), by decide +kernel, by decide +kernel, by decide +kernel⟩, by decide +kernel, Or.inr ⟨rfl, List.mem_of_getElem? (i := 393) (by decide +kernel), List.mem_of_getElem? (i := 0) (by decide +kernel)⟩⟩
def xe12 : xME := (⟨"OverInDinghy$Rows", "make", "(III)V"⟩, prog_9_method_4_code, 5, none, 8, 0, 3, 1)
set_option maxRecDepth 30000 in
theorem xm12 : mokE xe12 := Or.inr ⟨List.mem_of_getElem? (i := 399) rfl, ⟨List.mem_of_getElem? (i := 79) (by decide +kernel), by decide +kernel, by decide +kernel, by decide +kernel⟩, by decide +kernel, Or.inr ⟨rfl, List.mem_of_getElem? (i := 397) (by decide +kernel), List.mem_of_getElem? (i := 398) (by decide +kernel)⟩⟩
def xe13 : xME := (⟨"OverInDinghy", "fine", "(J)J"⟩, prog_1_method_33_code, 3, (some .long), 0, 0, 1, 1)
set_option maxRecDepth 30000 in
theorem xm13 : mokE xe13 := Or.inr ⟨List.mem_of_getElem? (i := 403) rfl, ⟨List.mem_of_getElem? (i := 78) (by decide +kernel), by decide +kernel, by decide +kernel, by decide +kernel⟩, by decide +kernel, Or.inr ⟨rfl, List.mem_of_getElem? (i := 402) (by decide +kernel), List.mem_of_getElem? (i := 1) (by decide +kernel)⟩⟩
def xe14 : xME := (⟨"OverInDinghy", "set", "(III)J"⟩, prog_1_method_3_code, 4, (some .long), 0, 1, 3, 1)
set_option maxRecDepth 30000 in
theorem xm14 : mokE xe14 := Or.inr ⟨List.mem_of_getElem? (i := 407) rfl, ⟨List.mem_of_getElem? (i := 78) (by decide +kernel), by decide +kernel, by decide +kernel, by decide +kernel⟩, by decide +kernel, Or.inr ⟨rfl, List.mem_of_getElem? (i := 405) (by decide +kernel), List.mem_of_getElem? (i := 406) (by decide +kernel)⟩⟩
def xe15 : xME := (⟨"OverInDinghy$Rows", "isMissing", "(I)Z"⟩, prog_9_method_3_code, 2, (some .boolean), 8, 0, 1, 1)
set_option maxRecDepth 30000 in
theorem xm15 : mokE xe15 := Or.inr ⟨List.mem_of_getElem? (i := 411) rfl, ⟨List.mem_of_getElem? (i := 79) (by decide +kernel), by decide +kernel, by decide +kernel, by decide +kernel⟩, by decide +kernel, Or.inr ⟨rfl, List.mem_of_getElem? (i := 409) (by decide +kernel), List.mem_of_getElem? (i := 410) (by decide +kernel)⟩⟩
def xe16 : xME := (⟨"OverInDinghy$Rows", "put", "(III)I"⟩, prog_9_method_5_code, 5, (some .int), 8, 0, 3, 1)
set_option maxRecDepth 30000 in
theorem xm16 : mokE xe16 := Or.inr ⟨List.mem_of_getElem? (i := 415) rfl, ⟨List.mem_of_getElem? (i := 79) (by decide +kernel), by decide +kernel, by decide +kernel, by decide +kernel⟩, by decide +kernel, Or.inr ⟨rfl, List.mem_of_getElem? (i := 413) (by decide +kernel), List.mem_of_getElem? (i := 414) (by decide +kernel)⟩⟩
def xe17 : xME := (⟨"OverInDinghy", "copy", "(IIIII)J"⟩, prog_1_method_4_code, 6, (some .long), 0, 1, 5, 1)
set_option maxRecDepth 30000 in
theorem xm17 : mokE xe17 := Or.inr ⟨List.mem_of_getElem? (i := 419) rfl, ⟨List.mem_of_getElem? (i := 78) (by decide +kernel), by decide +kernel, by decide +kernel, by decide +kernel⟩, by decide +kernel, Or.inr ⟨rfl, List.mem_of_getElem? (i := 417) (by decide +kernel), List.mem_of_getElem? (i := 418) (by decide +kernel)⟩⟩
def xe18 : xME := (⟨"OverInDinghy$Rows", "holds", "(III)Z"⟩, prog_9_method_7_code, 4, (some .boolean), 8, 0, 3, 1)
set_option maxRecDepth 30000 in
theorem xm18 : mokE xe18 := Or.inr ⟨List.mem_of_getElem? (i := 423) rfl, ⟨List.mem_of_getElem? (i := 79) (by decide +kernel), by decide +kernel, by decide +kernel, by decide +kernel⟩, by decide +kernel, Or.inr ⟨rfl, List.mem_of_getElem? (i := 421) (by decide +kernel), List.mem_of_getElem? (i := 422) (by decide +kernel)⟩⟩
def xe19 : xME := (⟨"OverInDinghy$Rows", "move", "(IIIII)V"⟩, prog_9_method_8_code, 6, none, 8, 0, 5, 1)
set_option maxRecDepth 30000 in
theorem xm19 : mokE xe19 := Or.inr ⟨List.mem_of_getElem? (i := 427) rfl, ⟨List.mem_of_getElem? (i := 79) (by decide +kernel), by decide +kernel, by decide +kernel, by decide +kernel⟩, by decide +kernel, Or.inr ⟨rfl, List.mem_of_getElem? (i := 425) (by decide +kernel), List.mem_of_getElem? (i := 426) (by decide +kernel)⟩⟩
def xmt0 : List xME := [xe0, xe1, xe2, xe3, xe4, xe5, xe6, xe7, xe8, xe9, xe10, xe11, xe12, xe13, xe14, xe15, xe16, xe17, xe18, xe19]
theorem xmt0_ok : ∀ e ∈ xmt0, mokE e := List.forall_mem_cons.mpr ⟨xm0, List.forall_mem_cons.mpr ⟨xm1, List.forall_mem_cons.mpr ⟨xm2, List.forall_mem_cons.mpr ⟨xm3, List.forall_mem_cons.mpr ⟨xm4, List.forall_mem_cons.mpr ⟨xm5, List.forall_mem_cons.mpr ⟨xm6, List.forall_mem_cons.mpr ⟨xm7, List.forall_mem_cons.mpr ⟨xm8, List.forall_mem_cons.mpr ⟨xm9, List.forall_mem_cons.mpr ⟨xm10, List.forall_mem_cons.mpr ⟨xm11, List.forall_mem_cons.mpr ⟨xm12, List.forall_mem_cons.mpr ⟨xm13, List.forall_mem_cons.mpr ⟨xm14, List.forall_mem_cons.mpr ⟨xm15, List.forall_mem_cons.mpr ⟨xm16, List.forall_mem_cons.mpr ⟨xm17, List.forall_mem_cons.mpr ⟨xm18, List.forall_mem_cons.mpr ⟨xm19, fun _ h => absurd h List.not_mem_nil⟩⟩⟩⟩⟩⟩⟩⟩⟩⟩⟩⟩⟩⟩⟩⟩⟩⟩⟩⟩
def xe20 : xME := (⟨"OverInDinghy", "drop", "(I)J"⟩, prog_1_method_5_code, 3, (some .long), 0, 1, 1, 1)
set_option maxRecDepth 30000 in
theorem xm20 : mokE xe20 := Or.inr ⟨List.mem_of_getElem? (i := 434) rfl, ⟨List.mem_of_getElem? (i := 78) (by decide +kernel), by decide +kernel, by decide +kernel, by decide +kernel⟩, by decide +kernel, Or.inr ⟨rfl, List.mem_of_getElem? (i := 432) (by decide +kernel), List.mem_of_getElem? (i := 433) (by decide +kernel)⟩⟩
def xe21 : xME := (⟨"OverInDinghy", "feed", "(JI)J"⟩, prog_1_method_6_code, 4, (some .long), 0, 1, 2, 1)
set_option maxRecDepth 30000 in
theorem xm21 : mokE xe21 := Or.inr ⟨List.mem_of_getElem? (i := 438) rfl, ⟨List.mem_of_getElem? (i := 78) (by decide +kernel), by decide +kernel, by decide +kernel, by decide +kernel⟩, by decide +kernel, Or.inr ⟨rfl, List.mem_of_getElem? (i := 436) (by decide +kernel), List.mem_of_getElem? (i := 437) (by decide +kernel)⟩⟩
def xe22 : xME := (⟨"OverInDinghy$Reader", "hasRoom", "(I)Z"⟩, prog_7_method_2_code, 2, (some .boolean), 6, 0, 1, 1)
set_option maxRecDepth 30000 in
theorem xm22 : mokE xe22 := Or.inr ⟨List.mem_of_getElem? (i := 442) rfl, ⟨List.mem_of_getElem? (i := 81) (by decide +kernel), by decide +kernel, by decide +kernel, by decide +kernel⟩, by decide +kernel, Or.inr ⟨rfl, List.mem_of_getElem? (i := 440) (by decide +kernel), List.mem_of_getElem? (i := 441) (by decide +kernel)⟩⟩
def xe23 : xME := (⟨"OverInDinghy$Reader", "append", "(JI)V"⟩, prog_7_method_3_code, 5, none, 6, 0, 2, 1)
set_option maxRecDepth 30000 in
theorem xm23 : mokE xe23 := Or.inr ⟨List.mem_of_getElem? (i := 447) rfl, ⟨List.mem_of_getElem? (i := 81) (by decide +kernel), by decide +kernel, by decide +kernel, by decide +kernel⟩, by decide +kernel, Or.inr ⟨rfl, List.mem_of_getElem? (i := 445) (by decide +kernel), List.mem_of_getElem? (i := 446) (by decide +kernel)⟩⟩
def xe24 : xME := (⟨"OverInDinghy", "club", "()J"⟩, prog_1_method_7_code, 2, (some .long), 0, 8, 0, 1)
set_option maxRecDepth 30000 in
theorem xm24 : mokE xe24 := Or.inr ⟨List.mem_of_getElem? (i := 451) rfl, ⟨List.mem_of_getElem? (i := 78) (by decide +kernel), by decide +kernel, by decide +kernel, by decide +kernel⟩, by decide +kernel, Or.inr ⟨rfl, List.mem_of_getElem? (i := 449) (by decide +kernel), List.mem_of_getElem? (i := 450) (by decide +kernel)⟩⟩
def xe25 : xME := (⟨"OverInDinghy$Reader", "read", "(LOverInDinghy$Club;)Z"⟩, prog_7_method_4_code, 3, (some .boolean), 6, 7, 1, 1)
set_option maxRecDepth 30000 in
theorem xm25 : mokE xe25 := Or.inr ⟨List.mem_of_getElem? (i := 455) rfl, ⟨List.mem_of_getElem? (i := 81) (by decide +kernel), by decide +kernel, by decide +kernel, by decide +kernel⟩, by decide +kernel, Or.inr ⟨rfl, List.mem_of_getElem? (i := 453) (by decide +kernel), List.mem_of_getElem? (i := 454) (by decide +kernel)⟩⟩
def xe26 : xME := (⟨"OverInDinghy$Club", "empty", "()V"⟩, prog_3_method_2_code, 1, none, 2, 1, 0, 1)
set_option maxRecDepth 30000 in
theorem xm26 : mokE xe26 := Or.inr ⟨List.mem_of_getElem? (i := 459) rfl, ⟨List.mem_of_getElem? (i := 82) (by decide +kernel), by decide +kernel, by decide +kernel, by decide +kernel⟩, by decide +kernel, Or.inr ⟨rfl, List.mem_of_getElem? (i := 457) (by decide +kernel), List.mem_of_getElem? (i := 458) (by decide +kernel)⟩⟩
def xe27 : xME := (⟨"OverInDinghy$Reader", "step", "()V"⟩, prog_7_method_13_code, 1, none, 6, 2, 0, 1)
set_option maxRecDepth 30000 in
theorem xm27 : mokE xe27 := Or.inr ⟨List.mem_of_getElem? (i := 464) rfl, ⟨List.mem_of_getElem? (i := 81) (by decide +kernel), by decide +kernel, by decide +kernel, by decide +kernel⟩, by decide +kernel, Or.inr ⟨rfl, List.mem_of_getElem? (i := 463) (by decide +kernel), List.mem_of_getElem? (i := 2) (by decide +kernel)⟩⟩
def xe28 : xME := (⟨"OverInDinghy$Reader", "isLetter", "(B)Z"⟩, prog_7_method_16_code, 1, (some .boolean), 6, 0, 1, 0)
set_option maxRecDepth 30000 in
theorem xm28 : mokE xe28 := Or.inr ⟨List.mem_of_getElem? (i := 467) rfl, ⟨List.mem_of_getElem? (i := 81) (by decide +kernel), by decide +kernel, by decide +kernel, by decide +kernel⟩, by decide +kernel, Or.inl ⟨rfl, List.mem_of_getElem? (i := 466) (by decide +kernel)⟩⟩
def xe29 : xME := (⟨"OverInDinghy$Reader", "stepName", "()V"⟩, prog_7_method_14_code, 1, none, 6, 1, 0, 1)
set_option maxRecDepth 30000 in
theorem xm29 : mokE xe29 := Or.inr ⟨List.mem_of_getElem? (i := 471) rfl, ⟨List.mem_of_getElem? (i := 81) (by decide +kernel), by decide +kernel, by decide +kernel, by decide +kernel⟩, by decide +kernel, Or.inr ⟨rfl, List.mem_of_getElem? (i := 470) (by decide +kernel), List.mem_of_getElem? (i := 3) (by decide +kernel)⟩⟩
def xe30 : xME := (⟨"OverInDinghy$Reader", "isFigure", "(B)Z"⟩, prog_7_method_17_code, 1, (some .boolean), 6, 0, 1, 0)
set_option maxRecDepth 30000 in
theorem xm30 : mokE xe30 := Or.inr ⟨List.mem_of_getElem? (i := 474) rfl, ⟨List.mem_of_getElem? (i := 81) (by decide +kernel), by decide +kernel, by decide +kernel, by decide +kernel⟩, by decide +kernel, Or.inl ⟨rfl, List.mem_of_getElem? (i := 473) (by decide +kernel)⟩⟩
def xe31 : xME := (⟨"OverInDinghy$Reader", "stepNumber", "()V"⟩, prog_7_method_15_code, 1, none, 6, 1, 0, 1)
set_option maxRecDepth 30000 in
theorem xm31 : mokE xe31 := Or.inr ⟨List.mem_of_getElem? (i := 478) rfl, ⟨List.mem_of_getElem? (i := 81) (by decide +kernel), by decide +kernel, by decide +kernel, by decide +kernel⟩, by decide +kernel, Or.inr ⟨rfl, List.mem_of_getElem? (i := 477) (by decide +kernel), List.mem_of_getElem? (i := 4) (by decide +kernel)⟩⟩
def xe32 : xME := (⟨"OverInDinghy$Reader", "readSea", "(LOverInDinghy$Club;)Z"⟩, prog_7_method_5_code, 2, (some .boolean), 6, 6, 1, 1)
set_option maxRecDepth 30000 in
theorem xm32 : mokE xe32 := Or.inr ⟨List.mem_of_getElem? (i := 482) rfl, ⟨List.mem_of_getElem? (i := 81) (by decide +kernel), by decide +kernel, by decide +kernel, by decide +kernel⟩, by decide +kernel, Or.inr ⟨rfl, List.mem_of_getElem? (i := 481) (by decide +kernel), List.mem_of_getElem? (i := 5) (by decide +kernel)⟩⟩
def xe33 : xME := (⟨"OverInDinghy$Reader", "takeWord", "(Ljava/lang/String;Z)Z"⟩, prog_7_method_8_code, 3, (some .boolean), 6, 5, 2, 1)
set_option maxRecDepth 30000 in
theorem xm33 : mokE xe33 := Or.inr ⟨List.mem_of_getElem? (i := 487) rfl, ⟨List.mem_of_getElem? (i := 81) (by decide +kernel), by decide +kernel, by decide +kernel, by decide +kernel⟩, by decide +kernel, Or.inr ⟨rfl, List.mem_of_getElem? (i := 486) (by decide +kernel), List.mem_of_getElem? (i := 6) (by decide +kernel)⟩⟩
def xe34 : xME := (⟨"OverInDinghy$Reader", "isWord", "(Ljava/lang/String;)Z"⟩, prog_7_method_12_code, 3, (some .boolean), 6, 4, 1, 1)
set_option maxRecDepth 30000 in
theorem xm34 : mokE xe34 := Or.inr ⟨List.mem_of_getElem? (i := 491) rfl, ⟨List.mem_of_getElem? (i := 81) (by decide +kernel), by decide +kernel, by decide +kernel, by decide +kernel⟩, by decide +kernel, Or.inr ⟨rfl, List.mem_of_getElem? (i := 490) (by decide +kernel), List.mem_of_getElem? (i := 7) (by decide +kernel)⟩⟩
def xe35 : xME := (⟨"java/lang/String", "length", "()I"⟩, prog_14_method_54_code, 1, (some .int), 13, 1, 0, 1)
set_option maxRecDepth 30000 in
theorem xm35 : mokE xe35 := Or.inr ⟨List.mem_of_getElem? (i := 495) rfl, ⟨List.mem_of_getElem? (i := 89) (by decide +kernel), by decide +kernel, by decide +kernel, by decide +kernel⟩, by decide +kernel, Or.inr ⟨rfl, List.mem_of_getElem? (i := 493) (by decide +kernel), List.mem_of_getElem? (i := 494) (by decide +kernel)⟩⟩
def xe36 : xME := (⟨"java/lang/String", "coder", "()B"⟩, prog_14_method_152_code, 1, (some .byte), 13, 0, 0, 1)
set_option maxRecDepth 30000 in
theorem xm36 : mokE xe36 := Or.inr ⟨List.mem_of_getElem? (i := 499) rfl, ⟨List.mem_of_getElem? (i := 89) (by decide +kernel), by decide +kernel, by decide +kernel, by decide +kernel⟩, by decide +kernel, Or.inr ⟨rfl, List.mem_of_getElem? (i := 497) (by decide +kernel), List.mem_of_getElem? (i := 498) (by decide +kernel)⟩⟩
def xe37 : xME := (⟨"java/lang/String", "charAt", "(I)C"⟩, prog_14_method_56_code, 2, (some .char), 13, 3, 1, 1)
set_option maxRecDepth 30000 in
theorem xm37 : mokE xe37 := Or.inr ⟨List.mem_of_getElem? (i := 505) rfl, ⟨List.mem_of_getElem? (i := 89) (by decide +kernel), by decide +kernel, by decide +kernel, by decide +kernel⟩, by decide +kernel, Or.inr ⟨rfl, List.mem_of_getElem? (i := 503) (by decide +kernel), List.mem_of_getElem? (i := 504) (by decide +kernel)⟩⟩
def xe38 : xME := (⟨"java/lang/String", "isLatin1", "()Z"⟩, prog_14_method_154_code, 1, (some .boolean), 13, 0, 0, 1)
set_option maxRecDepth 30000 in
theorem xm38 : mokE xe38 := Or.inr ⟨List.mem_of_getElem? (i := 509) rfl, ⟨List.mem_of_getElem? (i := 89) (by decide +kernel), by decide +kernel, by decide +kernel, by decide +kernel⟩, by decide +kernel, Or.inr ⟨rfl, List.mem_of_getElem? (i := 507) (by decide +kernel), List.mem_of_getElem? (i := 508) (by decide +kernel)⟩⟩
def xe39 : xME := (⟨"java/lang/StringLatin1", "charAt", "([BI)C"⟩, prog_15_method_2_code, 2, (some .char), 14, 2, 2, 0)
set_option maxRecDepth 30000 in
theorem xm39 : mokE xe39 := Or.inr ⟨List.mem_of_getElem? (i := 512) rfl, ⟨List.mem_of_getElem? (i := 90) (by decide +kernel), by decide +kernel, by decide +kernel, by decide +kernel⟩, by decide +kernel, Or.inl ⟨rfl, List.mem_of_getElem? (i := 511) (by decide +kernel)⟩⟩
def xmt1 : List xME := [xe20, xe21, xe22, xe23, xe24, xe25, xe26, xe27, xe28, xe29, xe30, xe31, xe32, xe33, xe34, xe35, xe36, xe37, xe38, xe39]
theorem xmt1_ok : ∀ e ∈ xmt1, mokE e := List.forall_mem_cons.mpr ⟨xm20, List.forall_mem_cons.mpr ⟨xm21, List.forall_mem_cons.mpr ⟨xm22, List.forall_mem_cons.mpr ⟨xm23, List.forall_mem_cons.mpr ⟨xm24, List.forall_mem_cons.mpr ⟨xm25, List.forall_mem_cons.mpr ⟨xm26, List.forall_mem_cons.mpr ⟨xm27, List.forall_mem_cons.mpr ⟨xm28, List.forall_mem_cons.mpr ⟨xm29, List.forall_mem_cons.mpr ⟨xm30, List.forall_mem_cons.mpr ⟨xm31, List.forall_mem_cons.mpr ⟨xm32, List.forall_mem_cons.mpr ⟨xm33, List.forall_mem_cons.mpr ⟨xm34, List.forall_mem_cons.mpr ⟨xm35, List.forall_mem_cons.mpr ⟨xm36, List.forall_mem_cons.mpr ⟨xm37, List.forall_mem_cons.mpr ⟨xm38, List.forall_mem_cons.mpr ⟨xm39, fun _ h => absurd h List.not_mem_nil⟩⟩⟩⟩⟩⟩⟩⟩⟩⟩⟩⟩⟩⟩⟩⟩⟩⟩⟩⟩
def xe40 : xME := (⟨"java/lang/String", "checkIndex", "(II)V"⟩, prog_14_method_155_code, 2, none, 13, 1, 2, 0)
set_option maxRecDepth 30000 in
theorem xm40 : mokE xe40 := Or.inr ⟨List.mem_of_getElem? (i := 515) rfl, ⟨List.mem_of_getElem? (i := 89) (by decide +kernel), by decide +kernel, by decide +kernel, by decide +kernel⟩, by decide +kernel, Or.inl ⟨rfl, List.mem_of_getElem? (i := 514) (by decide +kernel)⟩⟩
def xe41 : xME := (⟨"jdk/internal/util/Preconditions", "checkIndex", "(IILjava/util/function/BiFunction;)I"⟩, prog_19_method_11_code, 3, (some .int), 16, 0, 3, 0)
set_option maxRecDepth 30000 in
theorem xm41 : mokE xe41 := Or.inr ⟨List.mem_of_getElem? (i := 520) rfl, ⟨List.mem_of_getElem? (i := 91) (by decide +kernel), by decide +kernel, by decide +kernel, by decide +kernel⟩, by decide +kernel, Or.inl ⟨rfl, List.mem_of_getElem? (i := 519) (by decide +kernel)⟩⟩
def xe42 : xME := (⟨"java/lang/StringUTF16", "charAt", "([BI)C"⟩, prog_16_method_83_code, 2, (some .char), 17, 0, 2, 2)
theorem xm42 : mokE xe42 := Or.inl rfl
def xe43 : xME := (⟨"java/lang/StringUTF16", "checkIndex", "(I[B)V"⟩, prog_16_method_91_code, 2, none, 17, 2, 2, 2)
theorem xm43 : mokE xe43 := Or.inl rfl
def xe44 : xME := (⟨"java/lang/StringUTF16", "length", "([B)I"⟩, prog_16_method_6_code, 1, (some .int), 17, 0, 1, 2)
theorem xm44 : mokE xe44 := Or.inl rfl
def xe45 : xME := (⟨"java/lang/StringUTF16", "getChar", "([BI)C"⟩, prog_16_method_5_code, 2, (some .char), 17, 0, 2, 2)
theorem xm45 : mokE xe45 := Or.inl rfl
def xe46 : xME := (⟨"OverInDinghy$Reader", "refuse", "(II)Z"⟩, prog_7_method_11_code, 3, (some .boolean), 6, 0, 2, 1)
set_option maxRecDepth 30000 in
theorem xm46 : mokE xe46 := Or.inr ⟨List.mem_of_getElem? (i := 543) rfl, ⟨List.mem_of_getElem? (i := 81) (by decide +kernel), by decide +kernel, by decide +kernel, by decide +kernel⟩, by decide +kernel, Or.inr ⟨rfl, List.mem_of_getElem? (i := 542) (by decide +kernel), List.mem_of_getElem? (i := 8) (by decide +kernel)⟩⟩
def xe47 : xME := (⟨"OverInDinghy$Reader", "takeNumber", "(II)Z"⟩, prog_7_method_9_code, 3, (some .boolean), 6, 3, 2, 1)
set_option maxRecDepth 30000 in
theorem xm47 : mokE xe47 := Or.inr ⟨List.mem_of_getElem? (i := 547) rfl, ⟨List.mem_of_getElem? (i := 81) (by decide +kernel), by decide +kernel, by decide +kernel, by decide +kernel⟩, by decide +kernel, Or.inr ⟨rfl, List.mem_of_getElem? (i := 546) (by decide +kernel), List.mem_of_getElem? (i := 9) (by decide +kernel)⟩⟩
def xe48 : xME := (⟨"OverInDinghy$Reader", "takeSign", "()Z"⟩, prog_7_method_10_code, 1, (some .boolean), 6, 3, 0, 1)
set_option maxRecDepth 30000 in
theorem xm48 : mokE xe48 := Or.inr ⟨List.mem_of_getElem? (i := 552) rfl, ⟨List.mem_of_getElem? (i := 81) (by decide +kernel), by decide +kernel, by decide +kernel, by decide +kernel⟩, by decide +kernel, Or.inr ⟨rfl, List.mem_of_getElem? (i := 551) (by decide +kernel), List.mem_of_getElem? (i := 10) (by decide +kernel)⟩⟩
def xe49 : xME := (⟨"OverInDinghy$Reader", "readBoat", "(LOverInDinghy$Club;)Z"⟩, prog_7_method_6_code, 3, (some .boolean), 6, 6, 1, 1)
set_option maxRecDepth 30000 in
theorem xm49 : mokE xe49 := Or.inr ⟨List.mem_of_getElem? (i := 557) rfl, ⟨List.mem_of_getElem? (i := 81) (by decide +kernel), by decide +kernel, by decide +kernel, by decide +kernel⟩, by decide +kernel, Or.inr ⟨rfl, List.mem_of_getElem? (i := 556) (by decide +kernel), List.mem_of_getElem? (i := 11) (by decide +kernel)⟩⟩
def xe50 : xME := (⟨"OverInDinghy$Reader", "readHand", "(LOverInDinghy$Club;)Z"⟩, prog_7_method_7_code, 5, (some .boolean), 6, 6, 1, 1)
set_option maxRecDepth 30000 in
theorem xm50 : mokE xe50 := Or.inr ⟨List.mem_of_getElem? (i := 561) rfl, ⟨List.mem_of_getElem? (i := 81) (by decide +kernel), by decide +kernel, by decide +kernel, by decide +kernel⟩, by decide +kernel, Or.inr ⟨rfl, List.mem_of_getElem? (i := 560) (by decide +kernel), List.mem_of_getElem? (i := 12) (by decide +kernel)⟩⟩
def xe51 : xME := (⟨"OverInDinghy$Club", "crewOf", "(I)I"⟩, prog_3_method_10_code, 4, (some .int), 2, 0, 1, 1)
set_option maxRecDepth 30000 in
theorem xm51 : mokE xe51 := Or.inr ⟨List.mem_of_getElem? (i := 566) rfl, ⟨List.mem_of_getElem? (i := 82) (by decide +kernel), by decide +kernel, by decide +kernel, by decide +kernel⟩, by decide +kernel, Or.inr ⟨rfl, List.mem_of_getElem? (i := 564) (by decide +kernel), List.mem_of_getElem? (i := 565) (by decide +kernel)⟩⟩
def xe52 : xME := (⟨"OverInDinghy$Club", "become", "(LOverInDinghy$Club;)V"⟩, prog_3_method_3_code, 2, none, 2, 0, 1, 1)
set_option maxRecDepth 30000 in
theorem xm52 : mokE xe52 := Or.inr ⟨List.mem_of_getElem? (i := 571) rfl, ⟨List.mem_of_getElem? (i := 82) (by decide +kernel), by decide +kernel, by decide +kernel, by decide +kernel⟩, by decide +kernel, Or.inr ⟨rfl, List.mem_of_getElem? (i := 569) (by decide +kernel), List.mem_of_getElem? (i := 570) (by decide +kernel)⟩⟩
def xe53 : xME := (⟨"OverInDinghy", "fault", "()I"⟩, prog_1_method_8_code, 1, (some .int), 0, 0, 0, 1)
set_option maxRecDepth 30000 in
theorem xm53 : mokE xe53 := Or.inr ⟨List.mem_of_getElem? (i := 576) rfl, ⟨List.mem_of_getElem? (i := 78) (by decide +kernel), by decide +kernel, by decide +kernel, by decide +kernel⟩, by decide +kernel, Or.inr ⟨rfl, List.mem_of_getElem? (i := 574) (by decide +kernel), List.mem_of_getElem? (i := 575) (by decide +kernel)⟩⟩
def xe54 : xME := (⟨"OverInDinghy", "place", "(II)J"⟩, prog_1_method_9_code, 3, (some .long), 0, 1, 2, 1)
set_option maxRecDepth 30000 in
theorem xm54 : mokE xe54 := Or.inr ⟨List.mem_of_getElem? (i := 580) rfl, ⟨List.mem_of_getElem? (i := 78) (by decide +kernel), by decide +kernel, by decide +kernel, by decide +kernel⟩, by decide +kernel, Or.inr ⟨rfl, List.mem_of_getElem? (i := 578) (by decide +kernel), List.mem_of_getElem? (i := 579) (by decide +kernel)⟩⟩
def xe55 : xME := (⟨"OverInDinghy$Club", "isHand", "(I)Z"⟩, prog_3_method_6_code, 2, (some .boolean), 2, 0, 1, 1)
set_option maxRecDepth 30000 in
theorem xm55 : mokE xe55 := Or.inr ⟨List.mem_of_getElem? (i := 584) rfl, ⟨List.mem_of_getElem? (i := 82) (by decide +kernel), by decide +kernel, by decide +kernel, by decide +kernel⟩, by decide +kernel, Or.inr ⟨rfl, List.mem_of_getElem? (i := 582) (by decide +kernel), List.mem_of_getElem? (i := 583) (by decide +kernel)⟩⟩
def xe56 : xME := (⟨"OverInDinghy$Club", "can", "(I)Z"⟩, prog_3_method_8_code, 2, (some .boolean), 2, 0, 1, 1)
set_option maxRecDepth 30000 in
theorem xm56 : mokE xe56 := Or.inr ⟨List.mem_of_getElem? (i := 588) rfl, ⟨List.mem_of_getElem? (i := 82) (by decide +kernel), by decide +kernel, by decide +kernel, by decide +kernel⟩, by decide +kernel, Or.inr ⟨rfl, List.mem_of_getElem? (i := 586) (by decide +kernel), List.mem_of_getElem? (i := 587) (by decide +kernel)⟩⟩
def xe57 : xME := (⟨"OverInDinghy$Club", "isOver", "(I)Z"⟩, prog_3_method_9_code, 2, (some .boolean), 2, 0, 1, 1)
set_option maxRecDepth 30000 in
theorem xm57 : mokE xe57 := Or.inr ⟨List.mem_of_getElem? (i := 592) rfl, ⟨List.mem_of_getElem? (i := 82) (by decide +kernel), by decide +kernel, by decide +kernel, by decide +kernel⟩, by decide +kernel, Or.inr ⟨rfl, List.mem_of_getElem? (i := 590) (by decide +kernel), List.mem_of_getElem? (i := 591) (by decide +kernel)⟩⟩
def xe58 : xME := (⟨"OverInDinghy", "tip", "(I)J"⟩, prog_1_method_10_code, 2, (some .long), 0, 2, 1, 1)
set_option maxRecDepth 30000 in
theorem xm58 : mokE xe58 := Or.inr ⟨List.mem_of_getElem? (i := 597) rfl, ⟨List.mem_of_getElem? (i := 78) (by decide +kernel), by decide +kernel, by decide +kernel, by decide +kernel⟩, by decide +kernel, Or.inr ⟨rfl, List.mem_of_getElem? (i := 595) (by decide +kernel), List.mem_of_getElem? (i := 596) (by decide +kernel)⟩⟩
def xe59 : xME := (⟨"OverInDinghy$Club", "isBoat", "(I)Z"⟩, prog_3_method_5_code, 2, (some .boolean), 2, 0, 1, 1)
set_option maxRecDepth 30000 in
theorem xm59 : mokE xe59 := Or.inr ⟨List.mem_of_getElem? (i := 601) rfl, ⟨List.mem_of_getElem? (i := 82) (by decide +kernel), by decide +kernel, by decide +kernel, by decide +kernel⟩, by decide +kernel, Or.inr ⟨rfl, List.mem_of_getElem? (i := 599) (by decide +kernel), List.mem_of_getElem? (i := 600) (by decide +kernel)⟩⟩
def xmt2 : List xME := [xe40, xe41, xe42, xe43, xe44, xe45, xe46, xe47, xe48, xe49, xe50, xe51, xe52, xe53, xe54, xe55, xe56, xe57, xe58, xe59]
theorem xmt2_ok : ∀ e ∈ xmt2, mokE e := List.forall_mem_cons.mpr ⟨xm40, List.forall_mem_cons.mpr ⟨xm41, List.forall_mem_cons.mpr ⟨xm42, List.forall_mem_cons.mpr ⟨xm43, List.forall_mem_cons.mpr ⟨xm44, List.forall_mem_cons.mpr ⟨xm45, List.forall_mem_cons.mpr ⟨xm46, List.forall_mem_cons.mpr ⟨xm47, List.forall_mem_cons.mpr ⟨xm48, List.forall_mem_cons.mpr ⟨xm49, List.forall_mem_cons.mpr ⟨xm50, List.forall_mem_cons.mpr ⟨xm51, List.forall_mem_cons.mpr ⟨xm52, List.forall_mem_cons.mpr ⟨xm53, List.forall_mem_cons.mpr ⟨xm54, List.forall_mem_cons.mpr ⟨xm55, List.forall_mem_cons.mpr ⟨xm56, List.forall_mem_cons.mpr ⟨xm57, List.forall_mem_cons.mpr ⟨xm58, List.forall_mem_cons.mpr ⟨xm59, fun _ h => absurd h List.not_mem_nil⟩⟩⟩⟩⟩⟩⟩⟩⟩⟩⟩⟩⟩⟩⟩⟩⟩⟩⟩⟩
def xe60 : xME := (⟨"OverInDinghy$Club", "capsize", "(I)V"⟩, prog_3_method_22_code, 2, none, 2, 1, 1, 1)
set_option maxRecDepth 30000 in
theorem xm60 : mokE xe60 := Or.inr ⟨List.mem_of_getElem? (i := 605) rfl, ⟨List.mem_of_getElem? (i := 82) (by decide +kernel), by decide +kernel, by decide +kernel, by decide +kernel⟩, by decide +kernel, Or.inr ⟨rfl, List.mem_of_getElem? (i := 603) (by decide +kernel), List.mem_of_getElem? (i := 604) (by decide +kernel)⟩⟩
def xe61 : xME := (⟨"OverInDinghy$Club", "sendAll", "(III)V"⟩, prog_3_method_26_code, 5, none, 2, 0, 3, 1)
set_option maxRecDepth 30000 in
theorem xm61 : mokE xe61 := Or.inr ⟨List.mem_of_getElem? (i := 609) rfl, ⟨List.mem_of_getElem? (i := 82) (by decide +kernel), by decide +kernel, by decide +kernel, by decide +kernel⟩, by decide +kernel, Or.inr ⟨rfl, List.mem_of_getElem? (i := 608) (by decide +kernel), List.mem_of_getElem? (i := 13) (by decide +kernel)⟩⟩
def xe62 : xME := (⟨"OverInDinghy", "go", "(II)J"⟩, prog_1_method_11_code, 4, (some .long), 0, 5, 2, 1)
set_option maxRecDepth 30000 in
theorem xm62 : mokE xe62 := Or.inr ⟨List.mem_of_getElem? (i := 613) rfl, ⟨List.mem_of_getElem? (i := 78) (by decide +kernel), by decide +kernel, by decide +kernel, by decide +kernel⟩, by decide +kernel, Or.inr ⟨rfl, List.mem_of_getElem? (i := 611) (by decide +kernel), List.mem_of_getElem? (i := 612) (by decide +kernel)⟩⟩
def xe63 : xME := (⟨"OverInDinghy$Club", "isNone", "()Z"⟩, prog_3_method_4_code, 1, (some .boolean), 2, 0, 0, 1)
set_option maxRecDepth 30000 in
theorem xm63 : mokE xe63 := Or.inr ⟨List.mem_of_getElem? (i := 617) rfl, ⟨List.mem_of_getElem? (i := 82) (by decide +kernel), by decide +kernel, by decide +kernel, by decide +kernel⟩, by decide +kernel, Or.inr ⟨rfl, List.mem_of_getElem? (i := 615) (by decide +kernel), List.mem_of_getElem? (i := 616) (by decide +kernel)⟩⟩
def xe64 : xME := (⟨"OverInDinghy$Draws", "begin", "(I)V"⟩, prog_4_method_2_code, 2, none, 3, 0, 1, 1)
set_option maxRecDepth 30000 in
theorem xm64 : mokE xe64 := Or.inr ⟨List.mem_of_getElem? (i := 622) rfl, ⟨List.mem_of_getElem? (i := 83) (by decide +kernel), by decide +kernel, by decide +kernel, by decide +kernel⟩, by decide +kernel, Or.inr ⟨rfl, List.mem_of_getElem? (i := 620) (by decide +kernel), List.mem_of_getElem? (i := 621) (by decide +kernel)⟩⟩
def xe65 : xME := (⟨"OverInDinghy$Club", "tick", "(LOverInDinghy$Draws;)V"⟩, prog_3_method_20_code, 3, none, 2, 4, 1, 1)
set_option maxRecDepth 30000 in
theorem xm65 : mokE xe65 := Or.inr ⟨List.mem_of_getElem? (i := 626) rfl, ⟨List.mem_of_getElem? (i := 82) (by decide +kernel), by decide +kernel, by decide +kernel, by decide +kernel⟩, by decide +kernel, Or.inr ⟨rfl, List.mem_of_getElem? (i := 624) (by decide +kernel), List.mem_of_getElem? (i := 625) (by decide +kernel)⟩⟩
def xe66 : xME := (⟨"OverInDinghy$Club", "tickBoat", "(ILOverInDinghy$Draws;)V"⟩, prog_3_method_21_code, 5, none, 2, 3, 2, 1)
set_option maxRecDepth 30000 in
theorem xm66 : mokE xe66 := Or.inr ⟨List.mem_of_getElem? (i := 630) rfl, ⟨List.mem_of_getElem? (i := 82) (by decide +kernel), by decide +kernel, by decide +kernel, by decide +kernel⟩, by decide +kernel, Or.inr ⟨rfl, List.mem_of_getElem? (i := 628) (by decide +kernel), List.mem_of_getElem? (i := 629) (by decide +kernel)⟩⟩
def xe67 : xME := (⟨"OverInDinghy$Club", "needNow", "(I)I"⟩, prog_3_method_16_code, 2, (some .int), 2, 1, 1, 1)
set_option maxRecDepth 30000 in
theorem xm67 : mokE xe67 := Or.inr ⟨List.mem_of_getElem? (i := 634) rfl, ⟨List.mem_of_getElem? (i := 82) (by decide +kernel), by decide +kernel, by decide +kernel, by decide +kernel⟩, by decide +kernel, Or.inr ⟨rfl, List.mem_of_getElem? (i := 632) (by decide +kernel), List.mem_of_getElem? (i := 633) (by decide +kernel)⟩⟩
def xe68 : xME := (⟨"OverInDinghy$Club", "ableAt", "(II)I"⟩, prog_3_method_12_code, 5, (some .int), 2, 0, 2, 1)
set_option maxRecDepth 30000 in
theorem xm68 : mokE xe68 := Or.inr ⟨List.mem_of_getElem? (i := 638) rfl, ⟨List.mem_of_getElem? (i := 82) (by decide +kernel), by decide +kernel, by decide +kernel, by decide +kernel⟩, by decide +kernel, Or.inr ⟨rfl, List.mem_of_getElem? (i := 636) (by decide +kernel), List.mem_of_getElem? (i := 637) (by decide +kernel)⟩⟩
def xe69 : xME := (⟨"OverInDinghy$Club", "need", "(IIZ)I"⟩, prog_3_method_14_code, 4, (some .int), 2, 0, 3, 1)
set_option maxRecDepth 30000 in
theorem xm69 : mokE xe69 := Or.inr ⟨List.mem_of_getElem? (i := 642) rfl, ⟨List.mem_of_getElem? (i := 82) (by decide +kernel), by decide +kernel, by decide +kernel, by decide +kernel⟩, by decide +kernel, Or.inr ⟨rfl, List.mem_of_getElem? (i := 640) (by decide +kernel), List.mem_of_getElem? (i := 641) (by decide +kernel)⟩⟩
def xe70 : xME := (⟨"OverInDinghy$Club", "leverNow", "(I)I"⟩, prog_3_method_17_code, 2, (some .int), 2, 1, 1, 1)
set_option maxRecDepth 30000 in
theorem xm70 : mokE xe70 := Or.inr ⟨List.mem_of_getElem? (i := 646) rfl, ⟨List.mem_of_getElem? (i := 82) (by decide +kernel), by decide +kernel, by decide +kernel, by decide +kernel⟩, by decide +kernel, Or.inr ⟨rfl, List.mem_of_getElem? (i := 644) (by decide +kernel), List.mem_of_getElem? (i := 645) (by decide +kernel)⟩⟩
def xe71 : xME := (⟨"OverInDinghy$Club", "ableWeightOnBoard", "(I)I"⟩, prog_3_method_13_code, 4, (some .int), 2, 0, 1, 1)
set_option maxRecDepth 30000 in
theorem xm71 : mokE xe71 := Or.inr ⟨List.mem_of_getElem? (i := 650) rfl, ⟨List.mem_of_getElem? (i := 82) (by decide +kernel), by decide +kernel, by decide +kernel, by decide +kernel⟩, by decide +kernel, Or.inr ⟨rfl, List.mem_of_getElem? (i := 648) (by decide +kernel), List.mem_of_getElem? (i := 649) (by decide +kernel)⟩⟩
def xe72 : xME := (⟨"OverInDinghy$Club", "lever", "(II)I"⟩, prog_3_method_15_code, 3, (some .int), 2, 0, 2, 1)
set_option maxRecDepth 30000 in
theorem xm72 : mokE xe72 := Or.inr ⟨List.mem_of_getElem? (i := 654) rfl, ⟨List.mem_of_getElem? (i := 82) (by decide +kernel), by decide +kernel, by decide +kernel, by decide +kernel⟩, by decide +kernel, Or.inr ⟨rfl, List.mem_of_getElem? (i := 652) (by decide +kernel), List.mem_of_getElem? (i := 653) (by decide +kernel)⟩⟩
def xe73 : xME := (⟨"OverInDinghy$Club", "comeUp", "(ILOverInDinghy$Draws;)V"⟩, prog_3_method_25_code, 3, none, 2, 2, 2, 1)
set_option maxRecDepth 30000 in
theorem xm73 : mokE xe73 := Or.inr ⟨List.mem_of_getElem? (i := 658) rfl, ⟨List.mem_of_getElem? (i := 82) (by decide +kernel), by decide +kernel, by decide +kernel, by decide +kernel⟩, by decide +kernel, Or.inr ⟨rfl, List.mem_of_getElem? (i := 657) (by decide +kernel), List.mem_of_getElem? (i := 14) (by decide +kernel)⟩⟩
def xe74 : xME := (⟨"OverInDinghy$Draws", "draw", "(I)J"⟩, prog_4_method_3_code, 2, (some .long), 3, 0, 1, 1)
set_option maxRecDepth 30000 in
theorem xm74 : mokE xe74 := Or.inr ⟨List.mem_of_getElem? (i := 662) rfl, ⟨List.mem_of_getElem? (i := 83) (by decide +kernel), by decide +kernel, by decide +kernel, by decide +kernel⟩, by decide +kernel, Or.inr ⟨rfl, List.mem_of_getElem? (i := 660) (by decide +kernel), List.mem_of_getElem? (i := 661) (by decide +kernel)⟩⟩
def xe75 : xME := (⟨"OverInDinghy$Club", "fillMast", "(I)V"⟩, prog_3_method_24_code, 2, none, 2, 0, 1, 1)
set_option maxRecDepth 30000 in
theorem xm75 : mokE xe75 := Or.inr ⟨List.mem_of_getElem? (i := 669) rfl, ⟨List.mem_of_getElem? (i := 82) (by decide +kernel), by decide +kernel, by decide +kernel, by decide +kernel⟩, by decide +kernel, Or.inr ⟨rfl, List.mem_of_getElem? (i := 668) (by decide +kernel), List.mem_of_getElem? (i := 15) (by decide +kernel)⟩⟩
def xe76 : xME := (⟨"java/lang/Math", "min", "(II)I"⟩, prog_13_method_69_code, 2, (some .int), 12, 0, 2, 2)
theorem xm76 : mokE xe76 := Or.inl rfl
def xe77 : xME := (⟨"OverInDinghy$Club", "rideOrBail", "(ILOverInDinghy$Draws;)V"⟩, prog_3_method_23_code, 4, none, 2, 2, 2, 1)
set_option maxRecDepth 30000 in
theorem xm77 : mokE xe77 := Or.inr ⟨List.mem_of_getElem? (i := 676) rfl, ⟨List.mem_of_getElem? (i := 82) (by decide +kernel), by decide +kernel, by decide +kernel, by decide +kernel⟩, by decide +kernel, Or.inr ⟨rfl, List.mem_of_getElem? (i := 675) (by decide +kernel), List.mem_of_getElem? (i := 16) (by decide +kernel)⟩⟩
def xe78 : xME := (⟨"OverInDinghy$Club", "weightIn", "(I)I"⟩, prog_3_method_11_code, 4, (some .int), 2, 0, 1, 1)
set_option maxRecDepth 30000 in
theorem xm78 : mokE xe78 := Or.inr ⟨List.mem_of_getElem? (i := 680) rfl, ⟨List.mem_of_getElem? (i := 82) (by decide +kernel), by decide +kernel, by decide +kernel, by decide +kernel⟩, by decide +kernel, Or.inr ⟨rfl, List.mem_of_getElem? (i := 678) (by decide +kernel), List.mem_of_getElem? (i := 679) (by decide +kernel)⟩⟩
def xe79 : xME := (⟨"java/lang/Math", "max", "(II)I"⟩, prog_13_method_65_code, 2, (some .int), 12, 0, 2, 2)
theorem xm79 : mokE xe79 := Or.inl rfl
def xmt3 : List xME := [xe60, xe61, xe62, xe63, xe64, xe65, xe66, xe67, xe68, xe69, xe70, xe71, xe72, xe73, xe74, xe75, xe76, xe77, xe78, xe79]
theorem xmt3_ok : ∀ e ∈ xmt3, mokE e := List.forall_mem_cons.mpr ⟨xm60, List.forall_mem_cons.mpr ⟨xm61, List.forall_mem_cons.mpr ⟨xm62, List.forall_mem_cons.mpr ⟨xm63, List.forall_mem_cons.mpr ⟨xm64, List.forall_mem_cons.mpr ⟨xm65, List.forall_mem_cons.mpr ⟨xm66, List.forall_mem_cons.mpr ⟨xm67, List.forall_mem_cons.mpr ⟨xm68, List.forall_mem_cons.mpr ⟨xm69, List.forall_mem_cons.mpr ⟨xm70, List.forall_mem_cons.mpr ⟨xm71, List.forall_mem_cons.mpr ⟨xm72, List.forall_mem_cons.mpr ⟨xm73, List.forall_mem_cons.mpr ⟨xm74, List.forall_mem_cons.mpr ⟨xm75, List.forall_mem_cons.mpr ⟨xm76, List.forall_mem_cons.mpr ⟨xm77, List.forall_mem_cons.mpr ⟨xm78, List.forall_mem_cons.mpr ⟨xm79, fun _ h => absurd h List.not_mem_nil⟩⟩⟩⟩⟩⟩⟩⟩⟩⟩⟩⟩⟩⟩⟩⟩⟩⟩⟩⟩
def xe80 : xME := (⟨"OverInDinghy$Club", "chill", "(I)V"⟩, prog_3_method_27_code, 3, none, 2, 1, 1, 1)
set_option maxRecDepth 30000 in
theorem xm80 : mokE xe80 := Or.inr ⟨List.mem_of_getElem? (i := 687) rfl, ⟨List.mem_of_getElem? (i := 82) (by decide +kernel), by decide +kernel, by decide +kernel, by decide +kernel⟩, by decide +kernel, Or.inr ⟨rfl, List.mem_of_getElem? (i := 686) (by decide +kernel), List.mem_of_getElem? (i := 17) (by decide +kernel)⟩⟩
def xe81 : xME := (⟨"OverInDinghy$Club", "chillOf", "(I)I"⟩, prog_3_method_28_code, 4, (some .int), 2, 0, 1, 1)
set_option maxRecDepth 30000 in
theorem xm81 : mokE xe81 := Or.inr ⟨List.mem_of_getElem? (i := 691) rfl, ⟨List.mem_of_getElem? (i := 82) (by decide +kernel), by decide +kernel, by decide +kernel, by decide +kernel⟩, by decide +kernel, Or.inr ⟨rfl, List.mem_of_getElem? (i := 689) (by decide +kernel), List.mem_of_getElem? (i := 690) (by decide +kernel)⟩⟩
def xe82 : xME := (⟨"OverInDinghy", "boat", "(II)J"⟩, prog_1_method_12_code, 3, (some .long), 0, 2, 2, 1)
set_option maxRecDepth 30000 in
theorem xm82 : mokE xe82 := Or.inr ⟨List.mem_of_getElem? (i := 695) rfl, ⟨List.mem_of_getElem? (i := 78) (by decide +kernel), by decide +kernel, by decide +kernel, by decide +kernel⟩, by decide +kernel, Or.inr ⟨rfl, List.mem_of_getElem? (i := 693) (by decide +kernel), List.mem_of_getElem? (i := 694) (by decide +kernel)⟩⟩
def xe83 : xME := (⟨"OverInDinghy", "hand", "(II)J"⟩, prog_1_method_13_code, 3, (some .long), 0, 1, 2, 1)
set_option maxRecDepth 30000 in
theorem xm83 : mokE xe83 := Or.inr ⟨List.mem_of_getElem? (i := 702) rfl, ⟨List.mem_of_getElem? (i := 78) (by decide +kernel), by decide +kernel, by decide +kernel, by decide +kernel⟩, by decide +kernel, Or.inr ⟨rfl, List.mem_of_getElem? (i := 700) (by decide +kernel), List.mem_of_getElem? (i := 701) (by decide +kernel)⟩⟩
def xe84 : xME := (⟨"OverInDinghy", "rights", "(IIII)J"⟩, prog_1_method_14_code, 5, (some .long), 0, 3, 4, 1)
set_option maxRecDepth 30000 in
theorem xm84 : mokE xe84 := Or.inr ⟨List.mem_of_getElem? (i := 706) rfl, ⟨List.mem_of_getElem? (i := 78) (by decide +kernel), by decide +kernel, by decide +kernel, by decide +kernel⟩, by decide +kernel, Or.inr ⟨rfl, List.mem_of_getElem? (i := 704) (by decide +kernel), List.mem_of_getElem? (i := 705) (by decide +kernel)⟩⟩
def xe85 : xME := (⟨"OverInDinghy$Club", "isHandOf", "(II)Z"⟩, prog_3_method_7_code, 3, (some .boolean), 2, 1, 2, 1)
set_option maxRecDepth 30000 in
theorem xm85 : mokE xe85 := Or.inr ⟨List.mem_of_getElem? (i := 710) rfl, ⟨List.mem_of_getElem? (i := 82) (by decide +kernel), by decide +kernel, by decide +kernel, by decide +kernel⟩, by decide +kernel, Or.inr ⟨rfl, List.mem_of_getElem? (i := 708) (by decide +kernel), List.mem_of_getElem? (i := 709) (by decide +kernel)⟩⟩
def xe86 : xME := (⟨"OverInDinghy$Foretold", "enough", "(LOverInDinghy$Club;IIII)J"⟩, prog_5_method_2_code, 10, (some .long), 4, 2, 5, 0)
set_option maxRecDepth 30000 in
theorem xm86 : mokE xe86 := Or.inr ⟨List.mem_of_getElem? (i := 714) rfl, ⟨List.mem_of_getElem? (i := 94) (by decide +kernel), by decide +kernel, by decide +kernel, by decide +kernel⟩, by decide +kernel, Or.inl ⟨rfl, List.mem_of_getElem? (i := 713) (by decide +kernel)⟩⟩
def xe87 : xME := (⟨"OverInDinghy$Foretold", "ableBits", "(LOverInDinghy$Club;II)I"⟩, prog_5_method_3_code, 5, (some .int), 4, 1, 3, 0)
set_option maxRecDepth 30000 in
theorem xm87 : mokE xe87 := Or.inr ⟨List.mem_of_getElem? (i := 718) rfl, ⟨List.mem_of_getElem? (i := 94) (by decide +kernel), by decide +kernel, by decide +kernel, by decide +kernel⟩, by decide +kernel, Or.inl ⟨rfl, List.mem_of_getElem? (i := 717) (by decide +kernel)⟩⟩
def xe88 : xME := (⟨"OverInDinghy$Foretold", "weightOf", "(LOverInDinghy$Club;I)I"⟩, prog_5_method_4_code, 4, (some .int), 4, 0, 2, 0)
set_option maxRecDepth 30000 in
theorem xm88 : mokE xe88 := Or.inr ⟨List.mem_of_getElem? (i := 722) rfl, ⟨List.mem_of_getElem? (i := 94) (by decide +kernel), by decide +kernel, by decide +kernel, by decide +kernel⟩, by decide +kernel, Or.inl ⟨rfl, List.mem_of_getElem? (i := 721) (by decide +kernel)⟩⟩
def xe89 : xME := (⟨"OverInDinghy", "lightest", "(I)J"⟩, prog_1_method_15_code, 2, (some .long), 0, 2, 1, 1)
set_option maxRecDepth 30000 in
theorem xm89 : mokE xe89 := Or.inr ⟨List.mem_of_getElem? (i := 728) rfl, ⟨List.mem_of_getElem? (i := 78) (by decide +kernel), by decide +kernel, by decide +kernel, by decide +kernel⟩, by decide +kernel, Or.inr ⟨rfl, List.mem_of_getElem? (i := 726) (by decide +kernel), List.mem_of_getElem? (i := 727) (by decide +kernel)⟩⟩
def xe90 : xME := (⟨"OverInDinghy$Foretold", "leastWeight", "(LOverInDinghy$Club;I)I"⟩, prog_5_method_5_code, 4, (some .int), 4, 1, 2, 0)
set_option maxRecDepth 30000 in
theorem xm90 : mokE xe90 := Or.inr ⟨List.mem_of_getElem? (i := 731) rfl, ⟨List.mem_of_getElem? (i := 94) (by decide +kernel), by decide +kernel, by decide +kernel, by decide +kernel⟩, by decide +kernel, Or.inl ⟨rfl, List.mem_of_getElem? (i := 730) (by decide +kernel)⟩⟩
def xe91 : xME := (⟨"OverInDinghy", "round", "(I)J"⟩, prog_1_method_16_code, 2, (some .long), 0, 2, 1, 1)
set_option maxRecDepth 30000 in
theorem xm91 : mokE xe91 := Or.inr ⟨List.mem_of_getElem? (i := 736) rfl, ⟨List.mem_of_getElem? (i := 78) (by decide +kernel), by decide +kernel, by decide +kernel, by decide +kernel⟩, by decide +kernel, Or.inr ⟨rfl, List.mem_of_getElem? (i := 734) (by decide +kernel), List.mem_of_getElem? (i := 735) (by decide +kernel)⟩⟩
def xe92 : xME := (⟨"OverInDinghy$Foretold", "ticksTillRound", "(I)I"⟩, prog_5_method_6_code, 1, (some .int), 4, 1, 1, 0)
set_option maxRecDepth 30000 in
theorem xm92 : mokE xe92 := Or.inr ⟨List.mem_of_getElem? (i := 739) rfl, ⟨List.mem_of_getElem? (i := 94) (by decide +kernel), by decide +kernel, by decide +kernel, by decide +kernel⟩, by decide +kernel, Or.inl ⟨rfl, List.mem_of_getElem? (i := 738) (by decide +kernel)⟩⟩
def xe93 : xME := (⟨"OverInDinghy$Foretold", "upTo", "(II)I"⟩, prog_5_method_7_code, 2, (some .int), 4, 0, 2, 0)
set_option maxRecDepth 30000 in
theorem xm93 : mokE xe93 := Or.inr ⟨List.mem_of_getElem? (i := 742) rfl, ⟨List.mem_of_getElem? (i := 94) (by decide +kernel), by decide +kernel, by decide +kernel, by decide +kernel⟩, by decide +kernel, Or.inl ⟨rfl, List.mem_of_getElem? (i := 741) (by decide +kernel)⟩⟩
def xe94 : xME := (⟨"OverInDinghy", "quickest", "(II)J"⟩, prog_1_method_17_code, 3, (some .long), 0, 7, 2, 1)
set_option maxRecDepth 30000 in
theorem xm94 : mokE xe94 := Or.inr ⟨List.mem_of_getElem? (i := 746) rfl, ⟨List.mem_of_getElem? (i := 78) (by decide +kernel), by decide +kernel, by decide +kernel, by decide +kernel⟩, by decide +kernel, Or.inr ⟨rfl, List.mem_of_getElem? (i := 744) (by decide +kernel), List.mem_of_getElem? (i := 745) (by decide +kernel)⟩⟩
def xe95 : xME := (⟨"OverInDinghy$Search", "look", "(LOverInDinghy$Club;I)V"⟩, prog_10_method_2_code, 4, none, 9, 6, 2, 1)
set_option maxRecDepth 30000 in
theorem xm95 : mokE xe95 := Or.inr ⟨List.mem_of_getElem? (i := 750) rfl, ⟨List.mem_of_getElem? (i := 84) (by decide +kernel), by decide +kernel, by decide +kernel, by decide +kernel⟩, by decide +kernel, Or.inr ⟨rfl, List.mem_of_getElem? (i := 748) (by decide +kernel), List.mem_of_getElem? (i := 749) (by decide +kernel)⟩⟩
def xe96 : xME := (⟨"OverInDinghy$Search", "nextAble", "(II)I"⟩, prog_10_method_4_code, 4, (some .int), 9, 1, 2, 1)
set_option maxRecDepth 30000 in
theorem xm96 : mokE xe96 := Or.inr ⟨List.mem_of_getElem? (i := 756) rfl, ⟨List.mem_of_getElem? (i := 84) (by decide +kernel), by decide +kernel, by decide +kernel, by decide +kernel⟩, by decide +kernel, Or.inr ⟨rfl, List.mem_of_getElem? (i := 755) (by decide +kernel), List.mem_of_getElem? (i := 18) (by decide +kernel)⟩⟩
def xe97 : xME := (⟨"OverInDinghy$Search", "keep", "(II)V"⟩, prog_10_method_10_code, 4, none, 9, 0, 2, 1)
set_option maxRecDepth 30000 in
theorem xm97 : mokE xe97 := Or.inr ⟨List.mem_of_getElem? (i := 761) rfl, ⟨List.mem_of_getElem? (i := 84) (by decide +kernel), by decide +kernel, by decide +kernel, by decide +kernel⟩, by decide +kernel, Or.inr ⟨rfl, List.mem_of_getElem? (i := 760) (by decide +kernel), List.mem_of_getElem? (i := 19) (by decide +kernel)⟩⟩
def xe98 : xME := (⟨"OverInDinghy$Search", "tellsWater", "(I)Z"⟩, prog_10_method_5_code, 1, (some .boolean), 9, 0, 1, 0)
set_option maxRecDepth 30000 in
theorem xm98 : mokE xe98 := Or.inr ⟨List.mem_of_getElem? (i := 765) rfl, ⟨List.mem_of_getElem? (i := 84) (by decide +kernel), by decide +kernel, by decide +kernel, by decide +kernel⟩, by decide +kernel, Or.inl ⟨rfl, List.mem_of_getElem? (i := 764) (by decide +kernel)⟩⟩
def xe99 : xME := (⟨"OverInDinghy$Search", "tryRow", "(II)V"⟩, prog_10_method_6_code, 7, none, 9, 5, 2, 1)
set_option maxRecDepth 30000 in
theorem xm99 : mokE xe99 := Or.inr ⟨List.mem_of_getElem? (i := 769) rfl, ⟨List.mem_of_getElem? (i := 84) (by decide +kernel), by decide +kernel, by decide +kernel, by decide +kernel⟩, by decide +kernel, Or.inr ⟨rfl, List.mem_of_getElem? (i := 768) (by decide +kernel), List.mem_of_getElem? (i := 20) (by decide +kernel)⟩⟩
def xmt4 : List xME := [xe80, xe81, xe82, xe83, xe84, xe85, xe86, xe87, xe88, xe89, xe90, xe91, xe92, xe93, xe94, xe95, xe96, xe97, xe98, xe99]
theorem xmt4_ok : ∀ e ∈ xmt4, mokE e := List.forall_mem_cons.mpr ⟨xm80, List.forall_mem_cons.mpr ⟨xm81, List.forall_mem_cons.mpr ⟨xm82, List.forall_mem_cons.mpr ⟨xm83, List.forall_mem_cons.mpr ⟨xm84, List.forall_mem_cons.mpr ⟨xm85, List.forall_mem_cons.mpr ⟨xm86, List.forall_mem_cons.mpr ⟨xm87, List.forall_mem_cons.mpr ⟨xm88, List.forall_mem_cons.mpr ⟨xm89, List.forall_mem_cons.mpr ⟨xm90, List.forall_mem_cons.mpr ⟨xm91, List.forall_mem_cons.mpr ⟨xm92, List.forall_mem_cons.mpr ⟨xm93, List.forall_mem_cons.mpr ⟨xm94, List.forall_mem_cons.mpr ⟨xm95, List.forall_mem_cons.mpr ⟨xm96, List.forall_mem_cons.mpr ⟨xm97, List.forall_mem_cons.mpr ⟨xm98, List.forall_mem_cons.mpr ⟨xm99, fun _ h => absurd h List.not_mem_nil⟩⟩⟩⟩⟩⟩⟩⟩⟩⟩⟩⟩⟩⟩⟩⟩⟩⟩⟩⟩
def xe100 : xME := (⟨"OverInDinghy$Search", "bringBack", "(II)V"⟩, prog_10_method_11_code, 4, none, 9, 0, 2, 1)
set_option maxRecDepth 30000 in
theorem xm100 : mokE xe100 := Or.inr ⟨List.mem_of_getElem? (i := 773) rfl, ⟨List.mem_of_getElem? (i := 84) (by decide +kernel), by decide +kernel, by decide +kernel, by decide +kernel⟩, by decide +kernel, Or.inr ⟨rfl, List.mem_of_getElem? (i := 772) (by decide +kernel), List.mem_of_getElem? (i := 21) (by decide +kernel)⟩⟩
def xe101 : xME := (⟨"OverInDinghy$Search", "toldFor", "(II)I"⟩, prog_10_method_7_code, 2, (some .int), 9, 0, 2, 0)
set_option maxRecDepth 30000 in
theorem xm101 : mokE xe101 := Or.inr ⟨List.mem_of_getElem? (i := 776) rfl, ⟨List.mem_of_getElem? (i := 84) (by decide +kernel), by decide +kernel, by decide +kernel, by decide +kernel⟩, by decide +kernel, Or.inl ⟨rfl, List.mem_of_getElem? (i := 775) (by decide +kernel)⟩⟩
def xe102 : xME := (⟨"OverInDinghy$Search", "isUpBehind", "(II)Z"⟩, prog_10_method_8_code, 3, (some .boolean), 9, 4, 2, 1)
set_option maxRecDepth 30000 in
theorem xm102 : mokE xe102 := Or.inr ⟨List.mem_of_getElem? (i := 780) rfl, ⟨List.mem_of_getElem? (i := 84) (by decide +kernel), by decide +kernel, by decide +kernel, by decide +kernel⟩, by decide +kernel, Or.inr ⟨rfl, List.mem_of_getElem? (i := 779) (by decide +kernel), List.mem_of_getElem? (i := 22) (by decide +kernel)⟩⟩
def xe103 : xME := (⟨"OverInDinghy$Search", "send", "(III)V"⟩, prog_10_method_9_code, 4, none, 9, 1, 3, 1)
set_option maxRecDepth 30000 in
theorem xm103 : mokE xe103 := Or.inr ⟨List.mem_of_getElem? (i := 784) rfl, ⟨List.mem_of_getElem? (i := 84) (by decide +kernel), by decide +kernel, by decide +kernel, by decide +kernel⟩, by decide +kernel, Or.inr ⟨rfl, List.mem_of_getElem? (i := 783) (by decide +kernel), List.mem_of_getElem? (i := 23) (by decide +kernel)⟩⟩
def xe104 : xME := (⟨"OverInDinghy$Search", "ticks", "()I"⟩, prog_10_method_3_code, 1, (some .int), 9, 0, 0, 1)
set_option maxRecDepth 30000 in
theorem xm104 : mokE xe104 := Or.inr ⟨List.mem_of_getElem? (i := 790) rfl, ⟨List.mem_of_getElem? (i := 84) (by decide +kernel), by decide +kernel, by decide +kernel, by decide +kernel⟩, by decide +kernel, Or.inr ⟨rfl, List.mem_of_getElem? (i := 788) (by decide +kernel), List.mem_of_getElem? (i := 789) (by decide +kernel)⟩⟩
def xe105 : xME := (⟨"OverInDinghy", "tries", "(II)J"⟩, prog_1_method_18_code, 3, (some .long), 0, 1, 2, 1)
set_option maxRecDepth 30000 in
theorem xm105 : mokE xe105 := Or.inr ⟨List.mem_of_getElem? (i := 794) rfl, ⟨List.mem_of_getElem? (i := 78) (by decide +kernel), by decide +kernel, by decide +kernel, by decide +kernel⟩, by decide +kernel, Or.inr ⟨rfl, List.mem_of_getElem? (i := 792) (by decide +kernel), List.mem_of_getElem? (i := 793) (by decide +kernel)⟩⟩
def xe106 : xME := (⟨"OverInDinghy", "airs", "(I)J"⟩, prog_1_method_19_code, 2, (some .long), 0, 4, 1, 1)
set_option maxRecDepth 30000 in
theorem xm106 : mokE xe106 := Or.inr ⟨List.mem_of_getElem? (i := 800) rfl, ⟨List.mem_of_getElem? (i := 78) (by decide +kernel), by decide +kernel, by decide +kernel, by decide +kernel⟩, by decide +kernel, Or.inr ⟨rfl, List.mem_of_getElem? (i := 798) (by decide +kernel), List.mem_of_getElem? (i := 799) (by decide +kernel)⟩⟩
def xe107 : xME := (⟨"OverInDinghy$Foretold", "bestAirs", "(I)I"⟩, prog_5_method_8_code, 3, (some .int), 4, 3, 1, 0)
set_option maxRecDepth 30000 in
theorem xm107 : mokE xe107 := Or.inr ⟨List.mem_of_getElem? (i := 803) rfl, ⟨List.mem_of_getElem? (i := 94) (by decide +kernel), by decide +kernel, by decide +kernel, by decide +kernel⟩, by decide +kernel, Or.inl ⟨rfl, List.mem_of_getElem? (i := 802) (by decide +kernel)⟩⟩
def xe108 : xME := (⟨"OverInDinghy$Foretold", "isBeaten", "(II)Z"⟩, prog_5_method_9_code, 3, (some .boolean), 4, 2, 2, 0)
set_option maxRecDepth 30000 in
theorem xm108 : mokE xe108 := Or.inr ⟨List.mem_of_getElem? (i := 806) rfl, ⟨List.mem_of_getElem? (i := 94) (by decide +kernel), by decide +kernel, by decide +kernel, by decide +kernel⟩, by decide +kernel, Or.inl ⟨rfl, List.mem_of_getElem? (i := 805) (by decide +kernel)⟩⟩
def xe109 : xME := (⟨"OverInDinghy$Foretold", "bails", "(II)I"⟩, prog_5_method_10_code, 2, (some .int), 4, 1, 2, 0)
set_option maxRecDepth 30000 in
theorem xm109 : mokE xe109 := Or.inr ⟨List.mem_of_getElem? (i := 809) rfl, ⟨List.mem_of_getElem? (i := 94) (by decide +kernel), by decide +kernel, by decide +kernel, by decide +kernel⟩, by decide +kernel, Or.inl ⟨rfl, List.mem_of_getElem? (i := 808) (by decide +kernel)⟩⟩
def xe110 : xME := (⟨"OverInDinghy", "first", "(IIII)J"⟩, prog_1_method_20_code, 5, (some .long), 0, 2, 4, 1)
set_option maxRecDepth 30000 in
theorem xm110 : mokE xe110 := Or.inr ⟨List.mem_of_getElem? (i := 813) rfl, ⟨List.mem_of_getElem? (i := 78) (by decide +kernel), by decide +kernel, by decide +kernel, by decide +kernel⟩, by decide +kernel, Or.inr ⟨rfl, List.mem_of_getElem? (i := 811) (by decide +kernel), List.mem_of_getElem? (i := 812) (by decide +kernel)⟩⟩
def xe111 : xME := (⟨"OverInDinghy$Rows", "within", "(III)Z"⟩, prog_9_method_9_code, 5, (some .boolean), 8, 1, 3, 1)
set_option maxRecDepth 30000 in
theorem xm111 : mokE xe111 := Or.inr ⟨List.mem_of_getElem? (i := 817) rfl, ⟨List.mem_of_getElem? (i := 79) (by decide +kernel), by decide +kernel, by decide +kernel, by decide +kernel⟩, by decide +kernel, Or.inr ⟨rfl, List.mem_of_getElem? (i := 815) (by decide +kernel), List.mem_of_getElem? (i := 816) (by decide +kernel)⟩⟩
def xe112 : xME := (⟨"OverInDinghy$Rows", "item", "(II)I"⟩, prog_9_method_6_code, 3, (some .int), 8, 0, 2, 1)
set_option maxRecDepth 30000 in
theorem xm112 : mokE xe112 := Or.inr ⟨List.mem_of_getElem? (i := 821) rfl, ⟨List.mem_of_getElem? (i := 79) (by decide +kernel), by decide +kernel, by decide +kernel, by decide +kernel⟩, by decide +kernel, Or.inr ⟨rfl, List.mem_of_getElem? (i := 819) (by decide +kernel), List.mem_of_getElem? (i := 820) (by decide +kernel)⟩⟩
def xe113 : xME := (⟨"OverInDinghy$Rescue", "plan", "(LOverInDinghy$Rows;III)V"⟩, prog_8_method_2_code, 6, none, 7, 1, 4, 1)
set_option maxRecDepth 30000 in
theorem xm113 : mokE xe113 := Or.inr ⟨List.mem_of_getElem? (i := 825) rfl, ⟨List.mem_of_getElem? (i := 85) (by decide +kernel), by decide +kernel, by decide +kernel, by decide +kernel⟩, by decide +kernel, Or.inr ⟨rfl, List.mem_of_getElem? (i := 823) (by decide +kernel), List.mem_of_getElem? (i := 824) (by decide +kernel)⟩⟩
def xe114 : xME := (⟨"OverInDinghy$Rescue", "insert", "(I)V"⟩, prog_8_method_3_code, 3, none, 7, 0, 1, 1)
set_option maxRecDepth 30000 in
theorem xm114 : mokE xe114 := Or.inr ⟨List.mem_of_getElem? (i := 830) rfl, ⟨List.mem_of_getElem? (i := 85) (by decide +kernel), by decide +kernel, by decide +kernel, by decide +kernel⟩, by decide +kernel, Or.inr ⟨rfl, List.mem_of_getElem? (i := 829) (by decide +kernel), List.mem_of_getElem? (i := 24) (by decide +kernel)⟩⟩
def xe115 : xME := (⟨"OverInDinghy$Rescue", "sortPair", "(I)V"⟩, prog_8_method_4_code, 3, none, 7, 0, 1, 1)
set_option maxRecDepth 30000 in
theorem xm115 : mokE xe115 := Or.inr ⟨List.mem_of_getElem? (i := 834) rfl, ⟨List.mem_of_getElem? (i := 85) (by decide +kernel), by decide +kernel, by decide +kernel, by decide +kernel⟩, by decide +kernel, Or.inr ⟨rfl, List.mem_of_getElem? (i := 833) (by decide +kernel), List.mem_of_getElem? (i := 25) (by decide +kernel)⟩⟩
def xe116 : xME := (⟨"OverInDinghy$Rescue", "waited", "(II)I"⟩, prog_8_method_5_code, 6, (some .int), 7, 0, 2, 1)
set_option maxRecDepth 30000 in
theorem xm116 : mokE xe116 := Or.inr ⟨List.mem_of_getElem? (i := 838) rfl, ⟨List.mem_of_getElem? (i := 85) (by decide +kernel), by decide +kernel, by decide +kernel, by decide +kernel⟩, by decide +kernel, Or.inr ⟨rfl, List.mem_of_getElem? (i := 836) (by decide +kernel), List.mem_of_getElem? (i := 837) (by decide +kernel)⟩⟩
def xe117 : xME := (⟨"OverInDinghy", "over", "(IIII)J"⟩, prog_1_method_21_code, 11, (some .long), 0, 2, 4, 1)
set_option maxRecDepth 30000 in
theorem xm117 : mokE xe117 := Or.inr ⟨List.mem_of_getElem? (i := 843) rfl, ⟨List.mem_of_getElem? (i := 78) (by decide +kernel), by decide +kernel, by decide +kernel, by decide +kernel⟩, by decide +kernel, Or.inr ⟨rfl, List.mem_of_getElem? (i := 841) (by decide +kernel), List.mem_of_getElem? (i := 842) (by decide +kernel)⟩⟩
def xe118 : xME := (⟨"OverInDinghy$Odds", "areBoats", "(II)Z"⟩, prog_6_method_2_code, 2, (some .boolean), 5, 0, 2, 0)
set_option maxRecDepth 30000 in
theorem xm118 : mokE xe118 := Or.inr ⟨List.mem_of_getElem? (i := 846) rfl, ⟨List.mem_of_getElem? (i := 95) (by decide +kernel), by decide +kernel, by decide +kernel, by decide +kernel⟩, by decide +kernel, Or.inl ⟨rfl, List.mem_of_getElem? (i := 845) (by decide +kernel)⟩⟩
def xe119 : xME := (⟨"OverInDinghy$Odds", "above", "(III)J"⟩, prog_6_method_3_code, 6, (some .long), 5, 1, 3, 0)
set_option maxRecDepth 30000 in
theorem xm119 : mokE xe119 := Or.inr ⟨List.mem_of_getElem? (i := 849) rfl, ⟨List.mem_of_getElem? (i := 95) (by decide +kernel), by decide +kernel, by decide +kernel, by decide +kernel⟩, by decide +kernel, Or.inl ⟨rfl, List.mem_of_getElem? (i := 848) (by decide +kernel)⟩⟩
def xmt5 : List xME := [xe100, xe101, xe102, xe103, xe104, xe105, xe106, xe107, xe108, xe109, xe110, xe111, xe112, xe113, xe114, xe115, xe116, xe117, xe118, xe119]
theorem xmt5_ok : ∀ e ∈ xmt5, mokE e := List.forall_mem_cons.mpr ⟨xm100, List.forall_mem_cons.mpr ⟨xm101, List.forall_mem_cons.mpr ⟨xm102, List.forall_mem_cons.mpr ⟨xm103, List.forall_mem_cons.mpr ⟨xm104, List.forall_mem_cons.mpr ⟨xm105, List.forall_mem_cons.mpr ⟨xm106, List.forall_mem_cons.mpr ⟨xm107, List.forall_mem_cons.mpr ⟨xm108, List.forall_mem_cons.mpr ⟨xm109, List.forall_mem_cons.mpr ⟨xm110, List.forall_mem_cons.mpr ⟨xm111, List.forall_mem_cons.mpr ⟨xm112, List.forall_mem_cons.mpr ⟨xm113, List.forall_mem_cons.mpr ⟨xm114, List.forall_mem_cons.mpr ⟨xm115, List.forall_mem_cons.mpr ⟨xm116, List.forall_mem_cons.mpr ⟨xm117, List.forall_mem_cons.mpr ⟨xm118, List.forall_mem_cons.mpr ⟨xm119, fun _ h => absurd h List.not_mem_nil⟩⟩⟩⟩⟩⟩⟩⟩⟩⟩⟩⟩⟩⟩⟩⟩⟩⟩⟩⟩
def xe120 : xME := (⟨"OverInDinghy$Odds", "ways", "(II)J"⟩, prog_6_method_4_code, 5, (some .long), 5, 0, 2, 0)
set_option maxRecDepth 30000 in
theorem xm120 : mokE xe120 := Or.inr ⟨List.mem_of_getElem? (i := 852) rfl, ⟨List.mem_of_getElem? (i := 95) (by decide +kernel), by decide +kernel, by decide +kernel, by decide +kernel⟩, by decide +kernel, Or.inl ⟨rfl, List.mem_of_getElem? (i := 851) (by decide +kernel)⟩⟩
def xe121 : xME := (⟨"OverInDinghy$Odds", "power", "(JI)J"⟩, prog_6_method_5_code, 6, (some .long), 5, 0, 2, 0)
set_option maxRecDepth 30000 in
theorem xm121 : mokE xe121 := Or.inr ⟨List.mem_of_getElem? (i := 855) rfl, ⟨List.mem_of_getElem? (i := 95) (by decide +kernel), by decide +kernel, by decide +kernel, by decide +kernel⟩, by decide +kernel, Or.inl ⟨rfl, List.mem_of_getElem? (i := 854) (by decide +kernel)⟩⟩
def xe122 : xME := (⟨"OverInDinghy$Odds", "divisor", "(JJ)J"⟩, prog_6_method_6_code, 11, (some .long), 5, 0, 2, 0)
set_option maxRecDepth 30000 in
theorem xm122 : mokE xe122 := Or.inr ⟨List.mem_of_getElem? (i := 860) rfl, ⟨List.mem_of_getElem? (i := 95) (by decide +kernel), by decide +kernel, by decide +kernel, by decide +kernel⟩, by decide +kernel, Or.inl ⟨rfl, List.mem_of_getElem? (i := 859) (by decide +kernel)⟩⟩
def xe123 : xME := (⟨"OverInDinghy", "staysIn", "(III)J"⟩, prog_1_method_22_code, 5, (some .long), 0, 2, 3, 1)
set_option maxRecDepth 30000 in
theorem xm123 : mokE xe123 := Or.inr ⟨List.mem_of_getElem? (i := 864) rfl, ⟨List.mem_of_getElem? (i := 78) (by decide +kernel), by decide +kernel, by decide +kernel, by decide +kernel⟩, by decide +kernel, Or.inr ⟨rfl, List.mem_of_getElem? (i := 862) (by decide +kernel), List.mem_of_getElem? (i := 863) (by decide +kernel)⟩⟩
def xe124 : xME := (⟨"OverInDinghy", "heads", "(II)J"⟩, prog_1_method_23_code, 3, (some .long), 0, 2, 2, 1)
set_option maxRecDepth 30000 in
theorem xm124 : mokE xe124 := Or.inr ⟨List.mem_of_getElem? (i := 869) rfl, ⟨List.mem_of_getElem? (i := 78) (by decide +kernel), by decide +kernel, by decide +kernel, by decide +kernel⟩, by decide +kernel, Or.inr ⟨rfl, List.mem_of_getElem? (i := 867) (by decide +kernel), List.mem_of_getElem? (i := 868) (by decide +kernel)⟩⟩
def xe125 : xME := (⟨"OverInDinghy$Foretold", "balance", "(LOverInDinghy$Rows;III)I"⟩, prog_5_method_11_code, 8, (some .int), 4, 1, 4, 0)
set_option maxRecDepth 30000 in
theorem xm125 : mokE xe125 := Or.inr ⟨List.mem_of_getElem? (i := 872) rfl, ⟨List.mem_of_getElem? (i := 94) (by decide +kernel), by decide +kernel, by decide +kernel, by decide +kernel⟩, by decide +kernel, Or.inl ⟨rfl, List.mem_of_getElem? (i := 871) (by decide +kernel)⟩⟩
def xe126 : xME := (⟨"OverInDinghy", "image", "(I)J"⟩, prog_1_method_24_code, 2, (some .long), 0, 1, 1, 1)
set_option maxRecDepth 30000 in
theorem xm126 : mokE xe126 := Or.inr ⟨List.mem_of_getElem? (i := 877) rfl, ⟨List.mem_of_getElem? (i := 78) (by decide +kernel), by decide +kernel, by decide +kernel, by decide +kernel⟩, by decide +kernel, Or.inr ⟨rfl, List.mem_of_getElem? (i := 875) (by decide +kernel), List.mem_of_getElem? (i := 876) (by decide +kernel)⟩⟩
def xe127 : xME := (⟨"OverInDinghy", "imageOf", "(I)LOverInDinghy$Club;"⟩, prog_1_method_34_code, 2, (some (.object "OverInDinghy$Club")), 0, 0, 1, 1)
set_option maxRecDepth 30000 in
theorem xm127 : mokE xe127 := Or.inr ⟨List.mem_of_getElem? (i := 881) rfl, ⟨List.mem_of_getElem? (i := 78) (by decide +kernel), by decide +kernel, by decide +kernel, by decide +kernel⟩, by decide +kernel, Or.inr ⟨rfl, List.mem_of_getElem? (i := 880) (by decide +kernel), List.mem_of_getElem? (i := 26) (by decide +kernel)⟩⟩
def xe128 : xME := (⟨"OverInDinghy", "restore", "(I)J"⟩, prog_1_method_25_code, 2, (some .long), 0, 1, 1, 1)
set_option maxRecDepth 30000 in
theorem xm128 : mokE xe128 := Or.inr ⟨List.mem_of_getElem? (i := 885) rfl, ⟨List.mem_of_getElem? (i := 78) (by decide +kernel), by decide +kernel, by decide +kernel, by decide +kernel⟩, by decide +kernel, Or.inr ⟨rfl, List.mem_of_getElem? (i := 883) (by decide +kernel), List.mem_of_getElem? (i := 884) (by decide +kernel)⟩⟩
def xe129 : xME := (⟨"OverInDinghy", "kind", "(I)J"⟩, prog_1_method_26_code, 2, (some .long), 0, 1, 1, 1)
set_option maxRecDepth 30000 in
theorem xm129 : mokE xe129 := Or.inr ⟨List.mem_of_getElem? (i := 889) rfl, ⟨List.mem_of_getElem? (i := 78) (by decide +kernel), by decide +kernel, by decide +kernel, by decide +kernel⟩, by decide +kernel, Or.inr ⟨rfl, List.mem_of_getElem? (i := 887) (by decide +kernel), List.mem_of_getElem? (i := 888) (by decide +kernel)⟩⟩
def xe130 : xME := (⟨"OverInDinghy$Asks", "kindOf", "(I)I"⟩, prog_2_method_2_code, 1, (some .int), 1, 0, 1, 0)
set_option maxRecDepth 30000 in
theorem xm130 : mokE xe130 := Or.inr ⟨List.mem_of_getElem? (i := 892) rfl, ⟨List.mem_of_getElem? (i := 86) (by decide +kernel), by decide +kernel, by decide +kernel, by decide +kernel⟩, by decide +kernel, Or.inl ⟨rfl, List.mem_of_getElem? (i := 891) (by decide +kernel)⟩⟩
def xe131 : xME := (⟨"OverInDinghy", "as", "(II)J"⟩, prog_1_method_27_code, 3, (some .long), 0, 2, 2, 1)
set_option maxRecDepth 30000 in
theorem xm131 : mokE xe131 := Or.inr ⟨List.mem_of_getElem? (i := 896) rfl, ⟨List.mem_of_getElem? (i := 78) (by decide +kernel), by decide +kernel, by decide +kernel, by decide +kernel⟩, by decide +kernel, Or.inr ⟨rfl, List.mem_of_getElem? (i := 894) (by decide +kernel), List.mem_of_getElem? (i := 895) (by decide +kernel)⟩⟩
def xe132 : xME := (⟨"OverInDinghy$Asks", "isKind", "(I)Z"⟩, prog_2_method_3_code, 1, (some .boolean), 1, 0, 1, 0)
set_option maxRecDepth 30000 in
theorem xm132 : mokE xe132 := Or.inr ⟨List.mem_of_getElem? (i := 899) rfl, ⟨List.mem_of_getElem? (i := 86) (by decide +kernel), by decide +kernel, by decide +kernel, by decide +kernel⟩, by decide +kernel, Or.inl ⟨rfl, List.mem_of_getElem? (i := 898) (by decide +kernel)⟩⟩
def xe133 : xME := (⟨"OverInDinghy$Asks", "is", "(II)Z"⟩, prog_2_method_4_code, 4, (some .boolean), 1, 1, 2, 0)
set_option maxRecDepth 30000 in
theorem xm133 : mokE xe133 := Or.inr ⟨List.mem_of_getElem? (i := 902) rfl, ⟨List.mem_of_getElem? (i := 86) (by decide +kernel), by decide +kernel, by decide +kernel, by decide +kernel⟩, by decide +kernel, Or.inl ⟨rfl, List.mem_of_getElem? (i := 901) (by decide +kernel)⟩⟩
def xe134 : xME := (⟨"OverInDinghy", "ask", "(II)J"⟩, prog_1_method_28_code, 3, (some .long), 0, 10, 2, 1)
set_option maxRecDepth 30000 in
theorem xm134 : mokE xe134 := Or.inr ⟨List.mem_of_getElem? (i := 909) rfl, ⟨List.mem_of_getElem? (i := 78) (by decide +kernel), by decide +kernel, by decide +kernel, by decide +kernel⟩, by decide +kernel, Or.inr ⟨rfl, List.mem_of_getElem? (i := 907) (by decide +kernel), List.mem_of_getElem? (i := 908) (by decide +kernel)⟩⟩
def xe135 : xME := (⟨"OverInDinghy$Asks", "answer", "(LOverInDinghy$Club;II)J"⟩, prog_2_method_5_code, 4, (some .long), 1, 9, 3, 1)
set_option maxRecDepth 30000 in
theorem xm135 : mokE xe135 := Or.inr ⟨List.mem_of_getElem? (i := 913) rfl, ⟨List.mem_of_getElem? (i := 86) (by decide +kernel), by decide +kernel, by decide +kernel, by decide +kernel⟩, by decide +kernel, Or.inr ⟨rfl, List.mem_of_getElem? (i := 911) (by decide +kernel), List.mem_of_getElem? (i := 912) (by decide +kernel)⟩⟩
def xe136 : xME := (⟨"OverInDinghy$Asks", "bodyFor", "(II)I"⟩, prog_2_method_6_code, 5, (some .int), 1, 1, 2, 0)
set_option maxRecDepth 30000 in
theorem xm136 : mokE xe136 := Or.inr ⟨List.mem_of_getElem? (i := 917) rfl, ⟨List.mem_of_getElem? (i := 86) (by decide +kernel), by decide +kernel, by decide +kernel, by decide +kernel⟩, by decide +kernel, Or.inl ⟨rfl, List.mem_of_getElem? (i := 916) (by decide +kernel)⟩⟩
def xe137 : xME := (⟨"OverInDinghy$Asks", "begin", "(LOverInDinghy$Asks;ILOverInDinghy$Club;II)J"⟩, prog_2_method_7_code, 7, (some .long), 1, 8, 5, 0)
set_option maxRecDepth 30000 in
theorem xm137 : mokE xe137 := Or.inr ⟨List.mem_of_getElem? (i := 924) rfl, ⟨List.mem_of_getElem? (i := 86) (by decide +kernel), by decide +kernel, by decide +kernel, by decide +kernel⟩, by decide +kernel, Or.inl ⟨rfl, List.mem_of_getElem? (i := 923) (by decide +kernel)⟩⟩
def xe138 : xME := (⟨"OverInDinghy$Asks", "leave", "(I)V"⟩, prog_2_method_8_code, 2, none, 1, 0, 1, 1)
set_option maxRecDepth 30000 in
theorem xm138 : mokE xe138 := Or.inr ⟨List.mem_of_getElem? (i := 928) rfl, ⟨List.mem_of_getElem? (i := 86) (by decide +kernel), by decide +kernel, by decide +kernel, by decide +kernel⟩, by decide +kernel, Or.inr ⟨rfl, List.mem_of_getElem? (i := 927) (by decide +kernel), List.mem_of_getElem? (i := 27) (by decide +kernel)⟩⟩
def xe139 : xME := (⟨"OverInDinghy", "trace", "(I)I"⟩, prog_1_method_29_code, 2, (some .int), 0, 0, 1, 1)
set_option maxRecDepth 30000 in
theorem xm139 : mokE xe139 := Or.inr ⟨List.mem_of_getElem? (i := 935) rfl, ⟨List.mem_of_getElem? (i := 78) (by decide +kernel), by decide +kernel, by decide +kernel, by decide +kernel⟩, by decide +kernel, Or.inr ⟨rfl, List.mem_of_getElem? (i := 933) (by decide +kernel), List.mem_of_getElem? (i := 934) (by decide +kernel)⟩⟩
def xmt6 : List xME := [xe120, xe121, xe122, xe123, xe124, xe125, xe126, xe127, xe128, xe129, xe130, xe131, xe132, xe133, xe134, xe135, xe136, xe137, xe138, xe139]
theorem xmt6_ok : ∀ e ∈ xmt6, mokE e := List.forall_mem_cons.mpr ⟨xm120, List.forall_mem_cons.mpr ⟨xm121, List.forall_mem_cons.mpr ⟨xm122, List.forall_mem_cons.mpr ⟨xm123, List.forall_mem_cons.mpr ⟨xm124, List.forall_mem_cons.mpr ⟨xm125, List.forall_mem_cons.mpr ⟨xm126, List.forall_mem_cons.mpr ⟨xm127, List.forall_mem_cons.mpr ⟨xm128, List.forall_mem_cons.mpr ⟨xm129, List.forall_mem_cons.mpr ⟨xm130, List.forall_mem_cons.mpr ⟨xm131, List.forall_mem_cons.mpr ⟨xm132, List.forall_mem_cons.mpr ⟨xm133, List.forall_mem_cons.mpr ⟨xm134, List.forall_mem_cons.mpr ⟨xm135, List.forall_mem_cons.mpr ⟨xm136, List.forall_mem_cons.mpr ⟨xm137, List.forall_mem_cons.mpr ⟨xm138, List.forall_mem_cons.mpr ⟨xm139, fun _ h => absurd h List.not_mem_nil⟩⟩⟩⟩⟩⟩⟩⟩⟩⟩⟩⟩⟩⟩⟩⟩⟩⟩⟩⟩
def xe140 : xME := (⟨"OverInDinghy", "count", "(I)J"⟩, prog_1_method_30_code, 2, (some .long), 0, 2, 1, 1)
set_option maxRecDepth 30000 in
theorem xm140 : mokE xe140 := Or.inr ⟨List.mem_of_getElem? (i := 940) rfl, ⟨List.mem_of_getElem? (i := 78) (by decide +kernel), by decide +kernel, by decide +kernel, by decide +kernel⟩, by decide +kernel, Or.inr ⟨rfl, List.mem_of_getElem? (i := 938) (by decide +kernel), List.mem_of_getElem? (i := 939) (by decide +kernel)⟩⟩
def xe141 : xME := (⟨"OverInDinghy$Rows", "present", "()I"⟩, prog_9_method_10_code, 3, (some .int), 8, 1, 0, 1)
set_option maxRecDepth 30000 in
theorem xm141 : mokE xe141 := Or.inr ⟨List.mem_of_getElem? (i := 944) rfl, ⟨List.mem_of_getElem? (i := 79) (by decide +kernel), by decide +kernel, by decide +kernel, by decide +kernel⟩, by decide +kernel, Or.inr ⟨rfl, List.mem_of_getElem? (i := 942) (by decide +kernel), List.mem_of_getElem? (i := 943) (by decide +kernel)⟩⟩
def xe142 : xME := (⟨"OverInDinghy$Club", "handsWhoCannot", "()I"⟩, prog_3_method_18_code, 3, (some .int), 2, 1, 0, 1)
set_option maxRecDepth 30000 in
theorem xm142 : mokE xe142 := Or.inr ⟨List.mem_of_getElem? (i := 949) rfl, ⟨List.mem_of_getElem? (i := 82) (by decide +kernel), by decide +kernel, by decide +kernel, by decide +kernel⟩, by decide +kernel, Or.inr ⟨rfl, List.mem_of_getElem? (i := 947) (by decide +kernel), List.mem_of_getElem? (i := 948) (by decide +kernel)⟩⟩
def xe143 : xME := (⟨"OverInDinghy$Club", "boatsOver", "()I"⟩, prog_3_method_19_code, 3, (some .int), 2, 1, 0, 1)
set_option maxRecDepth 30000 in
theorem xm143 : mokE xe143 := Or.inr ⟨List.mem_of_getElem? (i := 954) rfl, ⟨List.mem_of_getElem? (i := 82) (by decide +kernel), by decide +kernel, by decide +kernel, by decide +kernel⟩, by decide +kernel, Or.inr ⟨rfl, List.mem_of_getElem? (i := 952) (by decide +kernel), List.mem_of_getElem? (i := 953) (by decide +kernel)⟩⟩
def xe144 : xME := (⟨"OverInDinghy", "status", "()I"⟩, prog_1_method_31_code, 1, (some .int), 0, 0, 0, 1)
set_option maxRecDepth 30000 in
theorem xm144 : mokE xe144 := Or.inr ⟨List.mem_of_getElem? (i := 959) rfl, ⟨List.mem_of_getElem? (i := 78) (by decide +kernel), by decide +kernel, by decide +kernel, by decide +kernel⟩, by decide +kernel, Or.inr ⟨rfl, List.mem_of_getElem? (i := 957) (by decide +kernel), List.mem_of_getElem? (i := 958) (by decide +kernel)⟩⟩
def xe145 : xME := (⟨"OverInDinghyModel", "<init>", "()V"⟩, prog_12_method_1_code, 1, none, 10, 0, 0, 2)
theorem xm145 : mokE xe145 := Or.inl rfl
def xe146 : xME := (⟨"OverInDinghyModel", "row", "(III)J"⟩, prog_12_method_6_code, 5, (some .long), 10, 2, 3, 1)
set_option maxRecDepth 30000 in
theorem xm146 : mokE xe146 := Or.inr ⟨List.mem_of_getElem? (i := 1067) rfl, ⟨List.mem_of_getElem? (i := 87) (by decide +kernel), by decide +kernel, by decide +kernel, by decide +kernel⟩, by decide +kernel, Or.inr ⟨rfl, List.mem_of_getElem? (i := 1065) (by decide +kernel), List.mem_of_getElem? (i := 1066) (by decide +kernel)⟩⟩
def xe147 : xME := (⟨"OverInDinghyModel", "isRow", "(I)Z"⟩, prog_12_method_5_code, 1, (some .boolean), 10, 1, 1, 0)
set_option maxRecDepth 30000 in
theorem xm147 : mokE xe147 := Or.inr ⟨List.mem_of_getElem? (i := 1070) rfl, ⟨List.mem_of_getElem? (i := 87) (by decide +kernel), by decide +kernel, by decide +kernel, by decide +kernel⟩, by decide +kernel, Or.inl ⟨rfl, List.mem_of_getElem? (i := 1069) (by decide +kernel)⟩⟩
def xe148 : xME := (⟨"OverInDinghyModel", "in", "(JJJ)Z"⟩, prog_12_method_3_code, 6, (some .boolean), 10, 0, 3, 0)
set_option maxRecDepth 30000 in
theorem xm148 : mokE xe148 := Or.inr ⟨List.mem_of_getElem? (i := 1074) rfl, ⟨List.mem_of_getElem? (i := 87) (by decide +kernel), by decide +kernel, by decide +kernel, by decide +kernel⟩, by decide +kernel, Or.inl ⟨rfl, List.mem_of_getElem? (i := 1073) (by decide +kernel)⟩⟩
def xe149 : xME := (⟨"OverInDinghyModel", "finding", "(I)J"⟩, prog_12_method_4_code, 2, (some .long), 10, 0, 1, 1)
set_option maxRecDepth 30000 in
theorem xm149 : mokE xe149 := Or.inr ⟨List.mem_of_getElem? (i := 1080) rfl, ⟨List.mem_of_getElem? (i := 87) (by decide +kernel), by decide +kernel, by decide +kernel, by decide +kernel⟩, by decide +kernel, Or.inr ⟨rfl, List.mem_of_getElem? (i := 1079) (by decide +kernel), List.mem_of_getElem? (i := 28) (by decide +kernel)⟩⟩
def xe150 : xME := (⟨"OverInDinghyModel", "set", "(III)J"⟩, prog_12_method_7_code, 4, (some .long), 10, 2, 3, 1)
set_option maxRecDepth 30000 in
theorem xm150 : mokE xe150 := Or.inr ⟨List.mem_of_getElem? (i := 1085) rfl, ⟨List.mem_of_getElem? (i := 87) (by decide +kernel), by decide +kernel, by decide +kernel, by decide +kernel⟩, by decide +kernel, Or.inr ⟨rfl, List.mem_of_getElem? (i := 1083) (by decide +kernel), List.mem_of_getElem? (i := 1084) (by decide +kernel)⟩⟩
def xe151 : xME := (⟨"OverInDinghyModel", "copy", "(IIIII)J"⟩, prog_12_method_8_code, 9, (some .long), 10, 2, 5, 1)
set_option maxRecDepth 30000 in
theorem xm151 : mokE xe151 := Or.inr ⟨List.mem_of_getElem? (i := 1089) rfl, ⟨List.mem_of_getElem? (i := 87) (by decide +kernel), by decide +kernel, by decide +kernel, by decide +kernel⟩, by decide +kernel, Or.inr ⟨rfl, List.mem_of_getElem? (i := 1087) (by decide +kernel), List.mem_of_getElem? (i := 1088) (by decide +kernel)⟩⟩
def xe152 : xME := (⟨"OverInDinghyModel", "drop", "(I)J"⟩, prog_12_method_9_code, 2, (some .long), 10, 2, 1, 1)
set_option maxRecDepth 30000 in
theorem xm152 : mokE xe152 := Or.inr ⟨List.mem_of_getElem? (i := 1093) rfl, ⟨List.mem_of_getElem? (i := 87) (by decide +kernel), by decide +kernel, by decide +kernel, by decide +kernel⟩, by decide +kernel, Or.inr ⟨rfl, List.mem_of_getElem? (i := 1091) (by decide +kernel), List.mem_of_getElem? (i := 1092) (by decide +kernel)⟩⟩
def xe153 : xME := (⟨"OverInDinghyModel", "feed", "(JI)J"⟩, prog_12_method_10_code, 5, (some .long), 10, 1, 2, 1)
set_option maxRecDepth 30000 in
theorem xm153 : mokE xe153 := Or.inr ⟨List.mem_of_getElem? (i := 1097) rfl, ⟨List.mem_of_getElem? (i := 87) (by decide +kernel), by decide +kernel, by decide +kernel, by decide +kernel⟩, by decide +kernel, Or.inr ⟨rfl, List.mem_of_getElem? (i := 1095) (by decide +kernel), List.mem_of_getElem? (i := 1096) (by decide +kernel)⟩⟩
def xe154 : xME := (⟨"OverInDinghyModel", "club", "()J"⟩, prog_12_method_26_code, 2, (some .long), 10, 5, 0, 1)
set_option maxRecDepth 30000 in
theorem xm154 : mokE xe154 := Or.inr ⟨List.mem_of_getElem? (i := 1104) rfl, ⟨List.mem_of_getElem? (i := 87) (by decide +kernel), by decide +kernel, by decide +kernel, by decide +kernel⟩, by decide +kernel, Or.inr ⟨rfl, List.mem_of_getElem? (i := 1102) (by decide +kernel), List.mem_of_getElem? (i := 1103) (by decide +kernel)⟩⟩
def xe155 : xME := (⟨"OverInDinghyModel", "next", "()V"⟩, prog_12_method_14_code, 2, none, 10, 1, 0, 1)
set_option maxRecDepth 30000 in
theorem xm155 : mokE xe155 := Or.inr ⟨List.mem_of_getElem? (i := 1108) rfl, ⟨List.mem_of_getElem? (i := 87) (by decide +kernel), by decide +kernel, by decide +kernel, by decide +kernel⟩, by decide +kernel, Or.inr ⟨rfl, List.mem_of_getElem? (i := 1107) (by decide +kernel), List.mem_of_getElem? (i := 29) (by decide +kernel)⟩⟩
def xe156 : xME := (⟨"OverInDinghyModel", "byteAt", "(I)I"⟩, prog_12_method_11_code, 2, (some .int), 10, 0, 1, 1)
set_option maxRecDepth 30000 in
theorem xm156 : mokE xe156 := Or.inr ⟨List.mem_of_getElem? (i := 1112) rfl, ⟨List.mem_of_getElem? (i := 87) (by decide +kernel), by decide +kernel, by decide +kernel, by decide +kernel⟩, by decide +kernel, Or.inr ⟨rfl, List.mem_of_getElem? (i := 1111) (by decide +kernel), List.mem_of_getElem? (i := 30) (by decide +kernel)⟩⟩
def xe157 : xME := (⟨"OverInDinghyModel", "isLetter", "(I)Z"⟩, prog_12_method_12_code, 1, (some .boolean), 10, 0, 1, 0)
set_option maxRecDepth 30000 in
theorem xm157 : mokE xe157 := Or.inr ⟨List.mem_of_getElem? (i := 1116) rfl, ⟨List.mem_of_getElem? (i := 87) (by decide +kernel), by decide +kernel, by decide +kernel, by decide +kernel⟩, by decide +kernel, Or.inl ⟨rfl, List.mem_of_getElem? (i := 1115) (by decide +kernel)⟩⟩
def xe158 : xME := (⟨"OverInDinghyModel", "isFigure", "(I)Z"⟩, prog_12_method_13_code, 1, (some .boolean), 10, 0, 1, 0)
set_option maxRecDepth 30000 in
theorem xm158 : mokE xe158 := Or.inr ⟨List.mem_of_getElem? (i := 1119) rfl, ⟨List.mem_of_getElem? (i := 87) (by decide +kernel), by decide +kernel, by decide +kernel, by decide +kernel⟩, by decide +kernel, Or.inl ⟨rfl, List.mem_of_getElem? (i := 1118) (by decide +kernel)⟩⟩
def xe159 : xME := (⟨"OverInDinghyModel", "readSea", "()V"⟩, prog_12_method_22_code, 1, none, 10, 4, 0, 1)
set_option maxRecDepth 30000 in
theorem xm159 : mokE xe159 := Or.inr ⟨List.mem_of_getElem? (i := 1123) rfl, ⟨List.mem_of_getElem? (i := 87) (by decide +kernel), by decide +kernel, by decide +kernel, by decide +kernel⟩, by decide +kernel, Or.inr ⟨rfl, List.mem_of_getElem? (i := 1122) (by decide +kernel), List.mem_of_getElem? (i := 31) (by decide +kernel)⟩⟩
def xmt7 : List xME := [xe140, xe141, xe142, xe143, xe144, xe145, xe146, xe147, xe148, xe149, xe150, xe151, xe152, xe153, xe154, xe155, xe156, xe157, xe158, xe159]
theorem xmt7_ok : ∀ e ∈ xmt7, mokE e := List.forall_mem_cons.mpr ⟨xm140, List.forall_mem_cons.mpr ⟨xm141, List.forall_mem_cons.mpr ⟨xm142, List.forall_mem_cons.mpr ⟨xm143, List.forall_mem_cons.mpr ⟨xm144, List.forall_mem_cons.mpr ⟨xm145, List.forall_mem_cons.mpr ⟨xm146, List.forall_mem_cons.mpr ⟨xm147, List.forall_mem_cons.mpr ⟨xm148, List.forall_mem_cons.mpr ⟨xm149, List.forall_mem_cons.mpr ⟨xm150, List.forall_mem_cons.mpr ⟨xm151, List.forall_mem_cons.mpr ⟨xm152, List.forall_mem_cons.mpr ⟨xm153, List.forall_mem_cons.mpr ⟨xm154, List.forall_mem_cons.mpr ⟨xm155, List.forall_mem_cons.mpr ⟨xm156, List.forall_mem_cons.mpr ⟨xm157, List.forall_mem_cons.mpr ⟨xm158, List.forall_mem_cons.mpr ⟨xm159, fun _ h => absurd h List.not_mem_nil⟩⟩⟩⟩⟩⟩⟩⟩⟩⟩⟩⟩⟩⟩⟩⟩⟩⟩⟩⟩
def xe160 : xME := (⟨"OverInDinghyModel", "word", "()J"⟩, prog_12_method_17_code, 4, (some .long), 10, 0, 0, 1)
set_option maxRecDepth 30000 in
theorem xm160 : mokE xe160 := Or.inr ⟨List.mem_of_getElem? (i := 1127) rfl, ⟨List.mem_of_getElem? (i := 87) (by decide +kernel), by decide +kernel, by decide +kernel, by decide +kernel⟩, by decide +kernel, Or.inr ⟨rfl, List.mem_of_getElem? (i := 1126) (by decide +kernel), List.mem_of_getElem? (i := 32) (by decide +kernel)⟩⟩
def xe161 : xME := (⟨"OverInDinghyModel", "must", "(Z)V"⟩, prog_12_method_16_code, 2, none, 10, 2, 1, 1)
set_option maxRecDepth 30000 in
theorem xm161 : mokE xe161 := Or.inr ⟨List.mem_of_getElem? (i := 1132) rfl, ⟨List.mem_of_getElem? (i := 87) (by decide +kernel), by decide +kernel, by decide +kernel, by decide +kernel⟩, by decide +kernel, Or.inr ⟨rfl, List.mem_of_getElem? (i := 1131) (by decide +kernel), List.mem_of_getElem? (i := 33) (by decide +kernel)⟩⟩
def xe162 : xME := (⟨"OverInDinghyModel", "bad", "(I)V"⟩, prog_12_method_15_code, 2, none, 10, 0, 1, 1)
set_option maxRecDepth 30000 in
theorem xm162 : mokE xe162 := Or.inr ⟨List.mem_of_getElem? (i := 1136) rfl, ⟨List.mem_of_getElem? (i := 87) (by decide +kernel), by decide +kernel, by decide +kernel, by decide +kernel⟩, by decide +kernel, Or.inr ⟨rfl, List.mem_of_getElem? (i := 1135) (by decide +kernel), List.mem_of_getElem? (i := 34) (by decide +kernel)⟩⟩
def xe163 : xME := (⟨"OverInDinghyModel", "number", "(II)I"⟩, prog_12_method_19_code, 4, (some .int), 10, 3, 2, 1)
set_option maxRecDepth 30000 in
theorem xm163 : mokE xe163 := Or.inr ⟨List.mem_of_getElem? (i := 1140) rfl, ⟨List.mem_of_getElem? (i := 87) (by decide +kernel), by decide +kernel, by decide +kernel, by decide +kernel⟩, by decide +kernel, Or.inr ⟨rfl, List.mem_of_getElem? (i := 1139) (by decide +kernel), List.mem_of_getElem? (i := 35) (by decide +kernel)⟩⟩
def xe164 : xME := (⟨"OverInDinghyModel", "figures", "()I"⟩, prog_12_method_18_code, 3, (some .int), 10, 0, 0, 1)
set_option maxRecDepth 30000 in
theorem xm164 : mokE xe164 := Or.inr ⟨List.mem_of_getElem? (i := 1144) rfl, ⟨List.mem_of_getElem? (i := 87) (by decide +kernel), by decide +kernel, by decide +kernel, by decide +kernel⟩, by decide +kernel, Or.inr ⟨rfl, List.mem_of_getElem? (i := 1143) (by decide +kernel), List.mem_of_getElem? (i := 36) (by decide +kernel)⟩⟩
def xe165 : xME := (⟨"OverInDinghyModel", "mustEnd", "()V"⟩, prog_12_method_20_code, 1, none, 10, 3, 0, 1)
set_option maxRecDepth 30000 in
theorem xm165 : mokE xe165 := Or.inr ⟨List.mem_of_getElem? (i := 1149) rfl, ⟨List.mem_of_getElem? (i := 87) (by decide +kernel), by decide +kernel, by decide +kernel, by decide +kernel⟩, by decide +kernel, Or.inr ⟨rfl, List.mem_of_getElem? (i := 1148) (by decide +kernel), List.mem_of_getElem? (i := 37) (by decide +kernel)⟩⟩
def xe166 : xME := (⟨"OverInDinghyModel", "readBoat", "()V"⟩, prog_12_method_23_code, 6, none, 10, 4, 0, 1)
set_option maxRecDepth 30000 in
theorem xm166 : mokE xe166 := Or.inr ⟨List.mem_of_getElem? (i := 1154) rfl, ⟨List.mem_of_getElem? (i := 87) (by decide +kernel), by decide +kernel, by decide +kernel, by decide +kernel⟩, by decide +kernel, Or.inr ⟨rfl, List.mem_of_getElem? (i := 1153) (by decide +kernel), List.mem_of_getElem? (i := 38) (by decide +kernel)⟩⟩
def xe167 : xME := (⟨"OverInDinghyModel", "begins", "(II)V"⟩, prog_12_method_21_code, 3, none, 10, 3, 2, 1)
set_option maxRecDepth 30000 in
theorem xm167 : mokE xe167 := Or.inr ⟨List.mem_of_getElem? (i := 1158) rfl, ⟨List.mem_of_getElem? (i := 87) (by decide +kernel), by decide +kernel, by decide +kernel, by decide +kernel⟩, by decide +kernel, Or.inr ⟨rfl, List.mem_of_getElem? (i := 1157) (by decide +kernel), List.mem_of_getElem? (i := 39) (by decide +kernel)⟩⟩
def xe168 : xME := (⟨"OverInDinghyModel", "readHand", "()V"⟩, prog_12_method_25_code, 5, none, 10, 4, 0, 1)
set_option maxRecDepth 30000 in
theorem xm168 : mokE xe168 := Or.inr ⟨List.mem_of_getElem? (i := 1163) rfl, ⟨List.mem_of_getElem? (i := 87) (by decide +kernel), by decide +kernel, by decide +kernel, by decide +kernel⟩, by decide +kernel, Or.inr ⟨rfl, List.mem_of_getElem? (i := 1162) (by decide +kernel), List.mem_of_getElem? (i := 40) (by decide +kernel)⟩⟩
def xe169 : xME := (⟨"OverInDinghyModel", "handsTold", "(I)I"⟩, prog_12_method_24_code, 4, (some .int), 10, 0, 1, 1)
set_option maxRecDepth 30000 in
theorem xm169 : mokE xe169 := Or.inr ⟨List.mem_of_getElem? (i := 1167) rfl, ⟨List.mem_of_getElem? (i := 87) (by decide +kernel), by decide +kernel, by decide +kernel, by decide +kernel⟩, by decide +kernel, Or.inr ⟨rfl, List.mem_of_getElem? (i := 1166) (by decide +kernel), List.mem_of_getElem? (i := 41) (by decide +kernel)⟩⟩
def xe170 : xME := (⟨"OverInDinghyModel", "fault", "()I"⟩, prog_12_method_27_code, 1, (some .int), 10, 0, 0, 1)
set_option maxRecDepth 30000 in
theorem xm170 : mokE xe170 := Or.inr ⟨List.mem_of_getElem? (i := 1172) rfl, ⟨List.mem_of_getElem? (i := 87) (by decide +kernel), by decide +kernel, by decide +kernel, by decide +kernel⟩, by decide +kernel, Or.inr ⟨rfl, List.mem_of_getElem? (i := 1170) (by decide +kernel), List.mem_of_getElem? (i := 1171) (by decide +kernel)⟩⟩
def xe171 : xME := (⟨"OverInDinghyModel", "place", "(II)J"⟩, prog_12_method_43_code, 3, (some .long), 10, 2, 2, 1)
set_option maxRecDepth 30000 in
theorem xm171 : mokE xe171 := Or.inr ⟨List.mem_of_getElem? (i := 1176) rfl, ⟨List.mem_of_getElem? (i := 87) (by decide +kernel), by decide +kernel, by decide +kernel, by decide +kernel⟩, by decide +kernel, Or.inr ⟨rfl, List.mem_of_getElem? (i := 1174) (by decide +kernel), List.mem_of_getElem? (i := 1175) (by decide +kernel)⟩⟩
def xe172 : xME := (⟨"OverInDinghyModel", "isHand", "(I)Z"⟩, prog_12_method_29_code, 2, (some .boolean), 10, 1, 1, 1)
set_option maxRecDepth 30000 in
theorem xm172 : mokE xe172 := Or.inr ⟨List.mem_of_getElem? (i := 1180) rfl, ⟨List.mem_of_getElem? (i := 87) (by decide +kernel), by decide +kernel, by decide +kernel, by decide +kernel⟩, by decide +kernel, Or.inr ⟨rfl, List.mem_of_getElem? (i := 1179) (by decide +kernel), List.mem_of_getElem? (i := 42) (by decide +kernel)⟩⟩
def xe173 : xME := (⟨"OverInDinghyModel", "can", "([II)Z"⟩, prog_12_method_32_code, 2, (some .boolean), 10, 0, 2, 0)
set_option maxRecDepth 30000 in
theorem xm173 : mokE xe173 := Or.inr ⟨List.mem_of_getElem? (i := 1184) rfl, ⟨List.mem_of_getElem? (i := 87) (by decide +kernel), by decide +kernel, by decide +kernel, by decide +kernel⟩, by decide +kernel, Or.inl ⟨rfl, List.mem_of_getElem? (i := 1183) (by decide +kernel)⟩⟩
def xe174 : xME := (⟨"OverInDinghyModel", "handOf", "(II)I"⟩, prog_12_method_31_code, 3, (some .int), 10, 0, 2, 1)
set_option maxRecDepth 30000 in
theorem xm174 : mokE xe174 := Or.inr ⟨List.mem_of_getElem? (i := 1188) rfl, ⟨List.mem_of_getElem? (i := 87) (by decide +kernel), by decide +kernel, by decide +kernel, by decide +kernel⟩, by decide +kernel, Or.inr ⟨rfl, List.mem_of_getElem? (i := 1187) (by decide +kernel), List.mem_of_getElem? (i := 43) (by decide +kernel)⟩⟩
def xe175 : xME := (⟨"OverInDinghyModel", "isUpright", "(I)Z"⟩, prog_12_method_42_code, 2, (some .boolean), 10, 0, 1, 1)
set_option maxRecDepth 30000 in
theorem xm175 : mokE xe175 := Or.inr ⟨List.mem_of_getElem? (i := 1192) rfl, ⟨List.mem_of_getElem? (i := 87) (by decide +kernel), by decide +kernel, by decide +kernel, by decide +kernel⟩, by decide +kernel, Or.inr ⟨rfl, List.mem_of_getElem? (i := 1191) (by decide +kernel), List.mem_of_getElem? (i := 44) (by decide +kernel)⟩⟩
def xe176 : xME := (⟨"OverInDinghyModel", "tip", "(I)J"⟩, prog_12_method_44_code, 2, (some .long), 10, 4, 1, 1)
set_option maxRecDepth 30000 in
theorem xm176 : mokE xe176 := Or.inr ⟨List.mem_of_getElem? (i := 1197) rfl, ⟨List.mem_of_getElem? (i := 87) (by decide +kernel), by decide +kernel, by decide +kernel, by decide +kernel⟩, by decide +kernel, Or.inr ⟨rfl, List.mem_of_getElem? (i := 1195) (by decide +kernel), List.mem_of_getElem? (i := 1196) (by decide +kernel)⟩⟩
def xe177 : xME := (⟨"OverInDinghyModel", "isBoat", "(I)Z"⟩, prog_12_method_28_code, 2, (some .boolean), 10, 1, 1, 1)
set_option maxRecDepth 30000 in
theorem xm177 : mokE xe177 := Or.inr ⟨List.mem_of_getElem? (i := 1201) rfl, ⟨List.mem_of_getElem? (i := 87) (by decide +kernel), by decide +kernel, by decide +kernel, by decide +kernel⟩, by decide +kernel, Or.inr ⟨rfl, List.mem_of_getElem? (i := 1200) (by decide +kernel), List.mem_of_getElem? (i := 45) (by decide +kernel)⟩⟩
def xe178 : xME := (⟨"OverInDinghyModel", "tips", "([II)V"⟩, prog_12_method_41_code, 3, none, 10, 3, 2, 1)
set_option maxRecDepth 30000 in
theorem xm178 : mokE xe178 := Or.inr ⟨List.mem_of_getElem? (i := 1205) rfl, ⟨List.mem_of_getElem? (i := 87) (by decide +kernel), by decide +kernel, by decide +kernel, by decide +kernel⟩, by decide +kernel, Or.inr ⟨rfl, List.mem_of_getElem? (i := 1204) (by decide +kernel), List.mem_of_getElem? (i := 46) (by decide +kernel)⟩⟩
def xe179 : xME := (⟨"OverInDinghyModel", "moveAll", "([IIII)V"⟩, prog_12_method_40_code, 6, none, 10, 2, 4, 1)
set_option maxRecDepth 30000 in
theorem xm179 : mokE xe179 := Or.inr ⟨List.mem_of_getElem? (i := 1209) rfl, ⟨List.mem_of_getElem? (i := 87) (by decide +kernel), by decide +kernel, by decide +kernel, by decide +kernel⟩, by decide +kernel, Or.inr ⟨rfl, List.mem_of_getElem? (i := 1208) (by decide +kernel), List.mem_of_getElem? (i := 47) (by decide +kernel)⟩⟩
def xmt8 : List xME := [xe160, xe161, xe162, xe163, xe164, xe165, xe166, xe167, xe168, xe169, xe170, xe171, xe172, xe173, xe174, xe175, xe176, xe177, xe178, xe179]
theorem xmt8_ok : ∀ e ∈ xmt8, mokE e := List.forall_mem_cons.mpr ⟨xm160, List.forall_mem_cons.mpr ⟨xm161, List.forall_mem_cons.mpr ⟨xm162, List.forall_mem_cons.mpr ⟨xm163, List.forall_mem_cons.mpr ⟨xm164, List.forall_mem_cons.mpr ⟨xm165, List.forall_mem_cons.mpr ⟨xm166, List.forall_mem_cons.mpr ⟨xm167, List.forall_mem_cons.mpr ⟨xm168, List.forall_mem_cons.mpr ⟨xm169, List.forall_mem_cons.mpr ⟨xm170, List.forall_mem_cons.mpr ⟨xm171, List.forall_mem_cons.mpr ⟨xm172, List.forall_mem_cons.mpr ⟨xm173, List.forall_mem_cons.mpr ⟨xm174, List.forall_mem_cons.mpr ⟨xm175, List.forall_mem_cons.mpr ⟨xm176, List.forall_mem_cons.mpr ⟨xm177, List.forall_mem_cons.mpr ⟨xm178, List.forall_mem_cons.mpr ⟨xm179, fun _ h => absurd h List.not_mem_nil⟩⟩⟩⟩⟩⟩⟩⟩⟩⟩⟩⟩⟩⟩⟩⟩⟩⟩⟩⟩
def xe180 : xME := (⟨"OverInDinghyModel", "isOf", "(II)Z"⟩, prog_12_method_34_code, 3, (some .boolean), 10, 1, 2, 1)
set_option maxRecDepth 30000 in
theorem xm180 : mokE xe180 := Or.inr ⟨List.mem_of_getElem? (i := 1213) rfl, ⟨List.mem_of_getElem? (i := 87) (by decide +kernel), by decide +kernel, by decide +kernel, by decide +kernel⟩, by decide +kernel, Or.inr ⟨rfl, List.mem_of_getElem? (i := 1212) (by decide +kernel), List.mem_of_getElem? (i := 48) (by decide +kernel)⟩⟩
def xe181 : xME := (⟨"OverInDinghyModel", "placeOf", "([II)I"⟩, prog_12_method_33_code, 2, (some .int), 10, 0, 2, 0)
set_option maxRecDepth 30000 in
theorem xm181 : mokE xe181 := Or.inr ⟨List.mem_of_getElem? (i := 1216) rfl, ⟨List.mem_of_getElem? (i := 87) (by decide +kernel), by decide +kernel, by decide +kernel, by decide +kernel⟩, by decide +kernel, Or.inl ⟨rfl, List.mem_of_getElem? (i := 1215) (by decide +kernel)⟩⟩
def xe182 : xME := (⟨"OverInDinghyModel", "go", "(II)J"⟩, prog_12_method_53_code, 5, (some .long), 10, 6, 2, 1)
set_option maxRecDepth 30000 in
theorem xm182 : mokE xe182 := Or.inr ⟨List.mem_of_getElem? (i := 1220) rfl, ⟨List.mem_of_getElem? (i := 87) (by decide +kernel), by decide +kernel, by decide +kernel, by decide +kernel⟩, by decide +kernel, Or.inr ⟨rfl, List.mem_of_getElem? (i := 1218) (by decide +kernel), List.mem_of_getElem? (i := 1219) (by decide +kernel)⟩⟩
def xe183 : xME := (⟨"OverInDinghyModel", "tick", "([IIZ)V"⟩, prog_12_method_52_code, 4, none, 10, 5, 3, 1)
set_option maxRecDepth 30000 in
theorem xm183 : mokE xe183 := Or.inr ⟨List.mem_of_getElem? (i := 1226) rfl, ⟨List.mem_of_getElem? (i := 87) (by decide +kernel), by decide +kernel, by decide +kernel, by decide +kernel⟩, by decide +kernel, Or.inr ⟨rfl, List.mem_of_getElem? (i := 1225) (by decide +kernel), List.mem_of_getElem? (i := 49) (by decide +kernel)⟩⟩
def xe184 : xME := (⟨"OverInDinghyModel", "goUpright", "([IIZ)V"⟩, prog_12_method_47_code, 7, none, 10, 4, 3, 1)
set_option maxRecDepth 30000 in
theorem xm184 : mokE xe184 := Or.inr ⟨List.mem_of_getElem? (i := 1230) rfl, ⟨List.mem_of_getElem? (i := 87) (by decide +kernel), by decide +kernel, by decide +kernel, by decide +kernel⟩, by decide +kernel, Or.inr ⟨rfl, List.mem_of_getElem? (i := 1229) (by decide +kernel), List.mem_of_getElem? (i := 50) (by decide +kernel)⟩⟩
def xe185 : xME := (⟨"OverInDinghyModel", "draw", "(I)I"⟩, prog_12_method_45_code, 2, (some .int), 10, 0, 1, 1)
set_option maxRecDepth 30000 in
theorem xm185 : mokE xe185 := Or.inr ⟨List.mem_of_getElem? (i := 1234) rfl, ⟨List.mem_of_getElem? (i := 87) (by decide +kernel), by decide +kernel, by decide +kernel, by decide +kernel⟩, by decide +kernel, Or.inr ⟨rfl, List.mem_of_getElem? (i := 1233) (by decide +kernel), List.mem_of_getElem? (i := 51) (by decide +kernel)⟩⟩
def xe186 : xME := (⟨"OverInDinghyModel", "boatOf", "(II)I"⟩, prog_12_method_30_code, 3, (some .int), 10, 0, 2, 1)
set_option maxRecDepth 30000 in
theorem xm186 : mokE xe186 := Or.inr ⟨List.mem_of_getElem? (i := 1240) rfl, ⟨List.mem_of_getElem? (i := 87) (by decide +kernel), by decide +kernel, by decide +kernel, by decide +kernel⟩, by decide +kernel, Or.inr ⟨rfl, List.mem_of_getElem? (i := 1239) (by decide +kernel), List.mem_of_getElem? (i := 52) (by decide +kernel)⟩⟩
def xe187 : xME := (⟨"OverInDinghyModel", "weightIn", "([II)I"⟩, prog_12_method_39_code, 5, (some .int), 10, 2, 2, 1)
set_option maxRecDepth 30000 in
theorem xm187 : mokE xe187 := Or.inr ⟨List.mem_of_getElem? (i := 1244) rfl, ⟨List.mem_of_getElem? (i := 87) (by decide +kernel), by decide +kernel, by decide +kernel, by decide +kernel⟩, by decide +kernel, Or.inr ⟨rfl, List.mem_of_getElem? (i := 1243) (by decide +kernel), List.mem_of_getElem? (i := 53) (by decide +kernel)⟩⟩
def xe188 : xME := (⟨"OverInDinghyModel", "bailers", "([II)I"⟩, prog_12_method_46_code, 5, (some .int), 10, 2, 2, 1)
set_option maxRecDepth 30000 in
theorem xm188 : mokE xe188 := Or.inr ⟨List.mem_of_getElem? (i := 1248) rfl, ⟨List.mem_of_getElem? (i := 87) (by decide +kernel), by decide +kernel, by decide +kernel, by decide +kernel⟩, by decide +kernel, Or.inr ⟨rfl, List.mem_of_getElem? (i := 1247) (by decide +kernel), List.mem_of_getElem? (i := 54) (by decide +kernel)⟩⟩
def xe189 : xME := (⟨"OverInDinghyModel", "goSided", "([IIZ)V"⟩, prog_12_method_48_code, 6, none, 10, 4, 3, 1)
set_option maxRecDepth 30000 in
theorem xm189 : mokE xe189 := Or.inr ⟨List.mem_of_getElem? (i := 1252) rfl, ⟨List.mem_of_getElem? (i := 87) (by decide +kernel), by decide +kernel, by decide +kernel, by decide +kernel⟩, by decide +kernel, Or.inr ⟨rfl, List.mem_of_getElem? (i := 1251) (by decide +kernel), List.mem_of_getElem? (i := 55) (by decide +kernel)⟩⟩
def xe190 : xME := (⟨"OverInDinghyModel", "needNow", "([II)I"⟩, prog_12_method_37_code, 3, (some .int), 10, 3, 2, 1)
set_option maxRecDepth 30000 in
theorem xm190 : mokE xe190 := Or.inr ⟨List.mem_of_getElem? (i := 1256) rfl, ⟨List.mem_of_getElem? (i := 87) (by decide +kernel), by decide +kernel, by decide +kernel, by decide +kernel⟩, by decide +kernel, Or.inr ⟨rfl, List.mem_of_getElem? (i := 1255) (by decide +kernel), List.mem_of_getElem? (i := 56) (by decide +kernel)⟩⟩
def xe191 : xME := (⟨"OverInDinghyModel", "hasBow", "([II)Z"⟩, prog_12_method_35_code, 5, (some .boolean), 10, 2, 2, 1)
set_option maxRecDepth 30000 in
theorem xm191 : mokE xe191 := Or.inr ⟨List.mem_of_getElem? (i := 1260) rfl, ⟨List.mem_of_getElem? (i := 87) (by decide +kernel), by decide +kernel, by decide +kernel, by decide +kernel⟩, by decide +kernel, Or.inr ⟨rfl, List.mem_of_getElem? (i := 1259) (by decide +kernel), List.mem_of_getElem? (i := 57) (by decide +kernel)⟩⟩
def xe192 : xME := (⟨"OverInDinghyModel", "need", "(IIZ)I"⟩, prog_12_method_36_code, 4, (some .int), 10, 1, 3, 1)
set_option maxRecDepth 30000 in
theorem xm192 : mokE xe192 := Or.inr ⟨List.mem_of_getElem? (i := 1264) rfl, ⟨List.mem_of_getElem? (i := 87) (by decide +kernel), by decide +kernel, by decide +kernel, by decide +kernel⟩, by decide +kernel, Or.inr ⟨rfl, List.mem_of_getElem? (i := 1263) (by decide +kernel), List.mem_of_getElem? (i := 58) (by decide +kernel)⟩⟩
def xe193 : xME := (⟨"OverInDinghyModel", "lever", "([II)I"⟩, prog_12_method_38_code, 5, (some .int), 10, 2, 2, 1)
set_option maxRecDepth 30000 in
theorem xm193 : mokE xe193 := Or.inr ⟨List.mem_of_getElem? (i := 1268) rfl, ⟨List.mem_of_getElem? (i := 87) (by decide +kernel), by decide +kernel, by decide +kernel, by decide +kernel⟩, by decide +kernel, Or.inr ⟨rfl, List.mem_of_getElem? (i := 1267) (by decide +kernel), List.mem_of_getElem? (i := 59) (by decide +kernel)⟩⟩
def xe194 : xME := (⟨"OverInDinghyModel", "goRound", "([II)V"⟩, prog_12_method_49_code, 5, none, 10, 4, 2, 1)
set_option maxRecDepth 30000 in
theorem xm194 : mokE xe194 := Or.inr ⟨List.mem_of_getElem? (i := 1272) rfl, ⟨List.mem_of_getElem? (i := 87) (by decide +kernel), by decide +kernel, by decide +kernel, by decide +kernel⟩, by decide +kernel, Or.inr ⟨rfl, List.mem_of_getElem? (i := 1271) (by decide +kernel), List.mem_of_getElem? (i := 60) (by decide +kernel)⟩⟩
def xe195 : xME := (⟨"OverInDinghyModel", "getsCold", "([II)V"⟩, prog_12_method_51_code, 5, none, 10, 2, 2, 1)
set_option maxRecDepth 30000 in
theorem xm195 : mokE xe195 := Or.inr ⟨List.mem_of_getElem? (i := 1276) rfl, ⟨List.mem_of_getElem? (i := 87) (by decide +kernel), by decide +kernel, by decide +kernel, by decide +kernel⟩, by decide +kernel, Or.inr ⟨rfl, List.mem_of_getElem? (i := 1275) (by decide +kernel), List.mem_of_getElem? (i := 61) (by decide +kernel)⟩⟩
def xe196 : xME := (⟨"OverInDinghyModel", "coldOf", "(I)I"⟩, prog_12_method_50_code, 3, (some .int), 10, 1, 1, 1)
set_option maxRecDepth 30000 in
theorem xm196 : mokE xe196 := Or.inr ⟨List.mem_of_getElem? (i := 1280) rfl, ⟨List.mem_of_getElem? (i := 87) (by decide +kernel), by decide +kernel, by decide +kernel, by decide +kernel⟩, by decide +kernel, Or.inr ⟨rfl, List.mem_of_getElem? (i := 1279) (by decide +kernel), List.mem_of_getElem? (i := 62) (by decide +kernel)⟩⟩
def xe197 : xME := (⟨"OverInDinghyModel", "boat", "(II)J"⟩, prog_12_method_54_code, 3, (some .long), 10, 4, 2, 1)
set_option maxRecDepth 30000 in
theorem xm197 : mokE xe197 := Or.inr ⟨List.mem_of_getElem? (i := 1284) rfl, ⟨List.mem_of_getElem? (i := 87) (by decide +kernel), by decide +kernel, by decide +kernel, by decide +kernel⟩, by decide +kernel, Or.inr ⟨rfl, List.mem_of_getElem? (i := 1282) (by decide +kernel), List.mem_of_getElem? (i := 1283) (by decide +kernel)⟩⟩
def xe198 : xME := (⟨"OverInDinghyModel", "hand", "(II)J"⟩, prog_12_method_55_code, 3, (some .long), 10, 2, 2, 1)
set_option maxRecDepth 30000 in
theorem xm198 : mokE xe198 := Or.inr ⟨List.mem_of_getElem? (i := 1288) rfl, ⟨List.mem_of_getElem? (i := 87) (by decide +kernel), by decide +kernel, by decide +kernel, by decide +kernel⟩, by decide +kernel, Or.inr ⟨rfl, List.mem_of_getElem? (i := 1286) (by decide +kernel), List.mem_of_getElem? (i := 1287) (by decide +kernel)⟩⟩
def xe199 : xME := (⟨"OverInDinghyModel", "rights", "(IIII)J"⟩, prog_12_method_57_code, 8, (some .long), 10, 3, 4, 1)
set_option maxRecDepth 30000 in
theorem xm199 : mokE xe199 := Or.inr ⟨List.mem_of_getElem? (i := 1292) rfl, ⟨List.mem_of_getElem? (i := 87) (by decide +kernel), by decide +kernel, by decide +kernel, by decide +kernel⟩, by decide +kernel, Or.inr ⟨rfl, List.mem_of_getElem? (i := 1290) (by decide +kernel), List.mem_of_getElem? (i := 1291) (by decide +kernel)⟩⟩
def xmt9 : List xME := [xe180, xe181, xe182, xe183, xe184, xe185, xe186, xe187, xe188, xe189, xe190, xe191, xe192, xe193, xe194, xe195, xe196, xe197, xe198, xe199]
theorem xmt9_ok : ∀ e ∈ xmt9, mokE e := List.forall_mem_cons.mpr ⟨xm180, List.forall_mem_cons.mpr ⟨xm181, List.forall_mem_cons.mpr ⟨xm182, List.forall_mem_cons.mpr ⟨xm183, List.forall_mem_cons.mpr ⟨xm184, List.forall_mem_cons.mpr ⟨xm185, List.forall_mem_cons.mpr ⟨xm186, List.forall_mem_cons.mpr ⟨xm187, List.forall_mem_cons.mpr ⟨xm188, List.forall_mem_cons.mpr ⟨xm189, List.forall_mem_cons.mpr ⟨xm190, List.forall_mem_cons.mpr ⟨xm191, List.forall_mem_cons.mpr ⟨xm192, List.forall_mem_cons.mpr ⟨xm193, List.forall_mem_cons.mpr ⟨xm194, List.forall_mem_cons.mpr ⟨xm195, List.forall_mem_cons.mpr ⟨xm196, List.forall_mem_cons.mpr ⟨xm197, List.forall_mem_cons.mpr ⟨xm198, List.forall_mem_cons.mpr ⟨xm199, fun _ h => absurd h List.not_mem_nil⟩⟩⟩⟩⟩⟩⟩⟩⟩⟩⟩⟩⟩⟩⟩⟩⟩⟩⟩⟩
def xe200 : xME := (⟨"OverInDinghyModel", "rightsBy", "(IIII)Z"⟩, prog_12_method_56_code, 7, (some .boolean), 10, 2, 4, 1)
set_option maxRecDepth 30000 in
theorem xm200 : mokE xe200 := Or.inr ⟨List.mem_of_getElem? (i := 1297) rfl, ⟨List.mem_of_getElem? (i := 87) (by decide +kernel), by decide +kernel, by decide +kernel, by decide +kernel⟩, by decide +kernel, Or.inr ⟨rfl, List.mem_of_getElem? (i := 1296) (by decide +kernel), List.mem_of_getElem? (i := 63) (by decide +kernel)⟩⟩
def xe201 : xME := (⟨"OverInDinghyModel", "lightest", "(I)J"⟩, prog_12_method_58_code, 3, (some .long), 10, 2, 1, 1)
set_option maxRecDepth 30000 in
theorem xm201 : mokE xe201 := Or.inr ⟨List.mem_of_getElem? (i := 1302) rfl, ⟨List.mem_of_getElem? (i := 87) (by decide +kernel), by decide +kernel, by decide +kernel, by decide +kernel⟩, by decide +kernel, Or.inr ⟨rfl, List.mem_of_getElem? (i := 1300) (by decide +kernel), List.mem_of_getElem? (i := 1301) (by decide +kernel)⟩⟩
def xe202 : xME := (⟨"OverInDinghyModel", "round", "(I)J"⟩, prog_12_method_59_code, 3, (some .long), 10, 2, 1, 1)
set_option maxRecDepth 30000 in
theorem xm202 : mokE xe202 := Or.inr ⟨List.mem_of_getElem? (i := 1306) rfl, ⟨List.mem_of_getElem? (i := 87) (by decide +kernel), by decide +kernel, by decide +kernel, by decide +kernel⟩, by decide +kernel, Or.inr ⟨rfl, List.mem_of_getElem? (i := 1304) (by decide +kernel), List.mem_of_getElem? (i := 1305) (by decide +kernel)⟩⟩
def xe203 : xME := (⟨"OverInDinghyModel", "quickest", "(II)J"⟩, prog_12_method_63_code, 5, (some .long), 10, 7, 2, 1)
set_option maxRecDepth 30000 in
theorem xm203 : mokE xe203 := Or.inr ⟨List.mem_of_getElem? (i := 1310) rfl, ⟨List.mem_of_getElem? (i := 87) (by decide +kernel), by decide +kernel, by decide +kernel, by decide +kernel⟩, by decide +kernel, Or.inr ⟨rfl, List.mem_of_getElem? (i := 1308) (by decide +kernel), List.mem_of_getElem? (i := 1309) (by decide +kernel)⟩⟩
def xe204 : xME := (⟨"OverInDinghyModel", "layTwo", "(I)Z"⟩, prog_12_method_62_code, 3, (some .boolean), 10, 2, 1, 1)
set_option maxRecDepth 30000 in
theorem xm204 : mokE xe204 := Or.inr ⟨List.mem_of_getElem? (i := 1314) rfl, ⟨List.mem_of_getElem? (i := 87) (by decide +kernel), by decide +kernel, by decide +kernel, by decide +kernel⟩, by decide +kernel, Or.inr ⟨rfl, List.mem_of_getElem? (i := 1313) (by decide +kernel), List.mem_of_getElem? (i := 64) (by decide +kernel)⟩⟩
def xe205 : xME := (⟨"OverInDinghyModel", "ticksBy", "(II)I"⟩, prog_12_method_61_code, 5, (some .int), 10, 6, 2, 1)
set_option maxRecDepth 30000 in
theorem xm205 : mokE xe205 := Or.inr ⟨List.mem_of_getElem? (i := 1318) rfl, ⟨List.mem_of_getElem? (i := 87) (by decide +kernel), by decide +kernel, by decide +kernel, by decide +kernel⟩, by decide +kernel, Or.inr ⟨rfl, List.mem_of_getElem? (i := 1317) (by decide +kernel), List.mem_of_getElem? (i := 65) (by decide +kernel)⟩⟩
def xe206 : xME := (⟨"OverInDinghyModel", "goesTo", "(III)V"⟩, prog_12_method_60_code, 5, none, 10, 1, 3, 1)
set_option maxRecDepth 30000 in
theorem xm206 : mokE xe206 := Or.inr ⟨List.mem_of_getElem? (i := 1322) rfl, ⟨List.mem_of_getElem? (i := 87) (by decide +kernel), by decide +kernel, by decide +kernel, by decide +kernel⟩, by decide +kernel, Or.inr ⟨rfl, List.mem_of_getElem? (i := 1321) (by decide +kernel), List.mem_of_getElem? (i := 66) (by decide +kernel)⟩⟩
def xe207 : xME := (⟨"OverInDinghyModel", "tries", "(II)J"⟩, prog_12_method_64_code, 5, (some .long), 10, 2, 2, 1)
set_option maxRecDepth 30000 in
theorem xm207 : mokE xe207 := Or.inr ⟨List.mem_of_getElem? (i := 1326) rfl, ⟨List.mem_of_getElem? (i := 87) (by decide +kernel), by decide +kernel, by decide +kernel, by decide +kernel⟩, by decide +kernel, Or.inr ⟨rfl, List.mem_of_getElem? (i := 1324) (by decide +kernel), List.mem_of_getElem? (i := 1325) (by decide +kernel)⟩⟩
def xe208 : xME := (⟨"OverInDinghyModel", "airs", "(I)J"⟩, prog_12_method_66_code, 7, (some .long), 10, 1, 1, 1)
set_option maxRecDepth 30000 in
theorem xm208 : mokE xe208 := Or.inr ⟨List.mem_of_getElem? (i := 1330) rfl, ⟨List.mem_of_getElem? (i := 87) (by decide +kernel), by decide +kernel, by decide +kernel, by decide +kernel⟩, by decide +kernel, Or.inr ⟨rfl, List.mem_of_getElem? (i := 1328) (by decide +kernel), List.mem_of_getElem? (i := 1329) (by decide +kernel)⟩⟩
def xe209 : xME := (⟨"OverInDinghyModel", "bails", "(II)I"⟩, prog_12_method_65_code, 3, (some .int), 10, 0, 2, 0)
set_option maxRecDepth 30000 in
theorem xm209 : mokE xe209 := Or.inr ⟨List.mem_of_getElem? (i := 1334) rfl, ⟨List.mem_of_getElem? (i := 87) (by decide +kernel), by decide +kernel, by decide +kernel, by decide +kernel⟩, by decide +kernel, Or.inl ⟨rfl, List.mem_of_getElem? (i := 1333) (by decide +kernel)⟩⟩
def xe210 : xME := (⟨"OverInDinghyModel", "first", "(IIII)J"⟩, prog_12_method_70_code, 10, (some .long), 10, 2, 4, 1)
set_option maxRecDepth 30000 in
theorem xm210 : mokE xe210 := Or.inr ⟨List.mem_of_getElem? (i := 1338) rfl, ⟨List.mem_of_getElem? (i := 87) (by decide +kernel), by decide +kernel, by decide +kernel, by decide +kernel⟩, by decide +kernel, Or.inr ⟨rfl, List.mem_of_getElem? (i := 1336) (by decide +kernel), List.mem_of_getElem? (i := 1337) (by decide +kernel)⟩⟩
def xe211 : xME := (⟨"OverInDinghyModel", "harmBy", "(III)I"⟩, prog_12_method_69_code, 6, (some .int), 10, 0, 3, 1)
set_option maxRecDepth 30000 in
theorem xm211 : mokE xe211 := Or.inr ⟨List.mem_of_getElem? (i := 1344) rfl, ⟨List.mem_of_getElem? (i := 87) (by decide +kernel), by decide +kernel, by decide +kernel, by decide +kernel⟩, by decide +kernel, Or.inr ⟨rfl, List.mem_of_getElem? (i := 1343) (by decide +kernel), List.mem_of_getElem? (i := 67) (by decide +kernel)⟩⟩
def xe212 : xME := (⟨"OverInDinghyModel", "nextOrder", "(I)Z"⟩, prog_12_method_67_code, 6, (some .boolean), 10, 1, 1, 1)
set_option maxRecDepth 30000 in
theorem xm212 : mokE xe212 := Or.inr ⟨List.mem_of_getElem? (i := 1348) rfl, ⟨List.mem_of_getElem? (i := 87) (by decide +kernel), by decide +kernel, by decide +kernel, by decide +kernel⟩, by decide +kernel, Or.inr ⟨rfl, List.mem_of_getElem? (i := 1347) (by decide +kernel), List.mem_of_getElem? (i := 68) (by decide +kernel)⟩⟩
def xe213 : xME := (⟨"OverInDinghyModel", "swap", "(II)V"⟩, prog_12_method_68_code, 4, none, 10, 0, 2, 1)
set_option maxRecDepth 30000 in
theorem xm213 : mokE xe213 := Or.inr ⟨List.mem_of_getElem? (i := 1352) rfl, ⟨List.mem_of_getElem? (i := 87) (by decide +kernel), by decide +kernel, by decide +kernel, by decide +kernel⟩, by decide +kernel, Or.inr ⟨rfl, List.mem_of_getElem? (i := 1351) (by decide +kernel), List.mem_of_getElem? (i := 69) (by decide +kernel)⟩⟩
def xe214 : xME := (⟨"OverInDinghyModel", "over", "(IIII)J"⟩, prog_12_method_75_code, 5, (some .long), 10, 2, 4, 1)
set_option maxRecDepth 30000 in
theorem xm214 : mokE xe214 := Or.inr ⟨List.mem_of_getElem? (i := 1356) rfl, ⟨List.mem_of_getElem? (i := 87) (by decide +kernel), by decide +kernel, by decide +kernel, by decide +kernel⟩, by decide +kernel, Or.inr ⟨rfl, List.mem_of_getElem? (i := 1354) (by decide +kernel), List.mem_of_getElem? (i := 1355) (by decide +kernel)⟩⟩
def xe215 : xME := (⟨"OverInDinghyModel", "areOver", "(II)Z"⟩, prog_12_method_74_code, 2, (some .boolean), 10, 1, 2, 0)
set_option maxRecDepth 30000 in
theorem xm215 : mokE xe215 := Or.inr ⟨List.mem_of_getElem? (i := 1359) rfl, ⟨List.mem_of_getElem? (i := 87) (by decide +kernel), by decide +kernel, by decide +kernel, by decide +kernel⟩, by decide +kernel, Or.inl ⟨rfl, List.mem_of_getElem? (i := 1358) (by decide +kernel)⟩⟩
def xe216 : xME := (⟨"OverInDinghyModel", "overWays", "(III)J"⟩, prog_12_method_72_code, 8, (some .long), 10, 1, 3, 0)
set_option maxRecDepth 30000 in
theorem xm216 : mokE xe216 := Or.inr ⟨List.mem_of_getElem? (i := 1362) rfl, ⟨List.mem_of_getElem? (i := 87) (by decide +kernel), by decide +kernel, by decide +kernel, by decide +kernel⟩, by decide +kernel, Or.inl ⟨rfl, List.mem_of_getElem? (i := 1361) (by decide +kernel)⟩⟩
def xe217 : xME := (⟨"OverInDinghyModel", "power", "(JI)J"⟩, prog_12_method_71_code, 6, (some .long), 10, 0, 2, 0)
set_option maxRecDepth 30000 in
theorem xm217 : mokE xe217 := Or.inr ⟨List.mem_of_getElem? (i := 1365) rfl, ⟨List.mem_of_getElem? (i := 87) (by decide +kernel), by decide +kernel, by decide +kernel, by decide +kernel⟩, by decide +kernel, Or.inl ⟨rfl, List.mem_of_getElem? (i := 1364) (by decide +kernel)⟩⟩
def xe218 : xME := (⟨"OverInDinghyModel", "partOf", "(JJI)J"⟩, prog_12_method_73_code, 11, (some .long), 10, 0, 3, 0)
set_option maxRecDepth 30000 in
theorem xm218 : mokE xe218 := Or.inr ⟨List.mem_of_getElem? (i := 1368) rfl, ⟨List.mem_of_getElem? (i := 87) (by decide +kernel), by decide +kernel, by decide +kernel, by decide +kernel⟩, by decide +kernel, Or.inl ⟨rfl, List.mem_of_getElem? (i := 1367) (by decide +kernel)⟩⟩
def xe219 : xME := (⟨"OverInDinghyModel", "staysIn", "(III)J"⟩, prog_12_method_76_code, 5, (some .long), 10, 2, 3, 1)
set_option maxRecDepth 30000 in
theorem xm219 : mokE xe219 := Or.inr ⟨List.mem_of_getElem? (i := 1372) rfl, ⟨List.mem_of_getElem? (i := 87) (by decide +kernel), by decide +kernel, by decide +kernel, by decide +kernel⟩, by decide +kernel, Or.inr ⟨rfl, List.mem_of_getElem? (i := 1370) (by decide +kernel), List.mem_of_getElem? (i := 1371) (by decide +kernel)⟩⟩
def xmt10 : List xME := [xe200, xe201, xe202, xe203, xe204, xe205, xe206, xe207, xe208, xe209, xe210, xe211, xe212, xe213, xe214, xe215, xe216, xe217, xe218, xe219]
theorem xmt10_ok : ∀ e ∈ xmt10, mokE e := List.forall_mem_cons.mpr ⟨xm200, List.forall_mem_cons.mpr ⟨xm201, List.forall_mem_cons.mpr ⟨xm202, List.forall_mem_cons.mpr ⟨xm203, List.forall_mem_cons.mpr ⟨xm204, List.forall_mem_cons.mpr ⟨xm205, List.forall_mem_cons.mpr ⟨xm206, List.forall_mem_cons.mpr ⟨xm207, List.forall_mem_cons.mpr ⟨xm208, List.forall_mem_cons.mpr ⟨xm209, List.forall_mem_cons.mpr ⟨xm210, List.forall_mem_cons.mpr ⟨xm211, List.forall_mem_cons.mpr ⟨xm212, List.forall_mem_cons.mpr ⟨xm213, List.forall_mem_cons.mpr ⟨xm214, List.forall_mem_cons.mpr ⟨xm215, List.forall_mem_cons.mpr ⟨xm216, List.forall_mem_cons.mpr ⟨xm217, List.forall_mem_cons.mpr ⟨xm218, List.forall_mem_cons.mpr ⟨xm219, fun _ h => absurd h List.not_mem_nil⟩⟩⟩⟩⟩⟩⟩⟩⟩⟩⟩⟩⟩⟩⟩⟩⟩⟩⟩⟩
def xe220 : xME := (⟨"OverInDinghyModel", "heads", "(II)J"⟩, prog_12_method_77_code, 8, (some .long), 10, 2, 2, 1)
set_option maxRecDepth 30000 in
theorem xm220 : mokE xe220 := Or.inr ⟨List.mem_of_getElem? (i := 1378) rfl, ⟨List.mem_of_getElem? (i := 87) (by decide +kernel), by decide +kernel, by decide +kernel, by decide +kernel⟩, by decide +kernel, Or.inr ⟨rfl, List.mem_of_getElem? (i := 1376) (by decide +kernel), List.mem_of_getElem? (i := 1377) (by decide +kernel)⟩⟩
def xe221 : xME := (⟨"OverInDinghyModel", "image", "(I)J"⟩, prog_12_method_78_code, 3, (some .long), 10, 1, 1, 1)
set_option maxRecDepth 30000 in
theorem xm221 : mokE xe221 := Or.inr ⟨List.mem_of_getElem? (i := 1383) rfl, ⟨List.mem_of_getElem? (i := 87) (by decide +kernel), by decide +kernel, by decide +kernel, by decide +kernel⟩, by decide +kernel, Or.inr ⟨rfl, List.mem_of_getElem? (i := 1381) (by decide +kernel), List.mem_of_getElem? (i := 1382) (by decide +kernel)⟩⟩
def xe222 : xME := (⟨"OverInDinghyModel", "restore", "(I)J"⟩, prog_12_method_79_code, 3, (some .long), 10, 1, 1, 1)
set_option maxRecDepth 30000 in
theorem xm222 : mokE xe222 := Or.inr ⟨List.mem_of_getElem? (i := 1387) rfl, ⟨List.mem_of_getElem? (i := 87) (by decide +kernel), by decide +kernel, by decide +kernel, by decide +kernel⟩, by decide +kernel, Or.inr ⟨rfl, List.mem_of_getElem? (i := 1385) (by decide +kernel), List.mem_of_getElem? (i := 1386) (by decide +kernel)⟩⟩
def xe223 : xME := (⟨"OverInDinghyModel", "kind", "(I)J"⟩, prog_12_method_82_code, 2, (some .long), 10, 2, 1, 1)
set_option maxRecDepth 30000 in
theorem xm223 : mokE xe223 := Or.inr ⟨List.mem_of_getElem? (i := 1391) rfl, ⟨List.mem_of_getElem? (i := 87) (by decide +kernel), by decide +kernel, by decide +kernel, by decide +kernel⟩, by decide +kernel, Or.inr ⟨rfl, List.mem_of_getElem? (i := 1389) (by decide +kernel), List.mem_of_getElem? (i := 1390) (by decide +kernel)⟩⟩
def xe224 : xME := (⟨"OverInDinghyModel", "kindOf", "(I)I"⟩, prog_12_method_81_code, 3, (some .int), 10, 0, 1, 1)
set_option maxRecDepth 30000 in
theorem xm224 : mokE xe224 := Or.inr ⟨List.mem_of_getElem? (i := 1395) rfl, ⟨List.mem_of_getElem? (i := 87) (by decide +kernel), by decide +kernel, by decide +kernel, by decide +kernel⟩, by decide +kernel, Or.inr ⟨rfl, List.mem_of_getElem? (i := 1394) (by decide +kernel), List.mem_of_getElem? (i := 70) (by decide +kernel)⟩⟩
def xe225 : xME := (⟨"OverInDinghyModel", "as", "(II)J"⟩, prog_12_method_83_code, 3, (some .long), 10, 2, 2, 1)
set_option maxRecDepth 30000 in
theorem xm225 : mokE xe225 := Or.inr ⟨List.mem_of_getElem? (i := 1399) rfl, ⟨List.mem_of_getElem? (i := 87) (by decide +kernel), by decide +kernel, by decide +kernel, by decide +kernel⟩, by decide +kernel, Or.inr ⟨rfl, List.mem_of_getElem? (i := 1397) (by decide +kernel), List.mem_of_getElem? (i := 1398) (by decide +kernel)⟩⟩
def xe226 : xME := (⟨"OverInDinghyModel", "isKindOf", "(II)Z"⟩, prog_12_method_80_code, 2, (some .boolean), 10, 0, 2, 0)
set_option maxRecDepth 30000 in
theorem xm226 : mokE xe226 := Or.inr ⟨List.mem_of_getElem? (i := 1403) rfl, ⟨List.mem_of_getElem? (i := 87) (by decide +kernel), by decide +kernel, by decide +kernel, by decide +kernel⟩, by decide +kernel, Or.inl ⟨rfl, List.mem_of_getElem? (i := 1402) (by decide +kernel)⟩⟩
def xe227 : xME := (⟨"OverInDinghyModel", "ask", "(II)J"⟩, prog_12_method_90_code, 4, (some .long), 10, 4, 2, 1)
set_option maxRecDepth 30000 in
theorem xm227 : mokE xe227 := Or.inr ⟨List.mem_of_getElem? (i := 1407) rfl, ⟨List.mem_of_getElem? (i := 87) (by decide +kernel), by decide +kernel, by decide +kernel, by decide +kernel⟩, by decide +kernel, Or.inr ⟨rfl, List.mem_of_getElem? (i := 1405) (by decide +kernel), List.mem_of_getElem? (i := 1406) (by decide +kernel)⟩⟩
def xe228 : xME := (⟨"OverInDinghyModel", "lyingSize", "(II)I"⟩, prog_12_method_87_code, 4, (some .int), 10, 2, 2, 1)
set_option maxRecDepth 30000 in
theorem xm228 : mokE xe228 := Or.inr ⟨List.mem_of_getElem? (i := 1411) rfl, ⟨List.mem_of_getElem? (i := 87) (by decide +kernel), by decide +kernel, by decide +kernel, by decide +kernel⟩, by decide +kernel, Or.inr ⟨rfl, List.mem_of_getElem? (i := 1410) (by decide +kernel), List.mem_of_getElem? (i := 71) (by decide +kernel)⟩⟩
def xe229 : xME := (⟨"OverInDinghyModel", "began", "(I)V"⟩, prog_12_method_84_code, 2, none, 10, 0, 1, 1)
set_option maxRecDepth 30000 in
theorem xm229 : mokE xe229 := Or.inr ⟨List.mem_of_getElem? (i := 1415) rfl, ⟨List.mem_of_getElem? (i := 87) (by decide +kernel), by decide +kernel, by decide +kernel, by decide +kernel⟩, by decide +kernel, Or.inr ⟨rfl, List.mem_of_getElem? (i := 1414) (by decide +kernel), List.mem_of_getElem? (i := 72) (by decide +kernel)⟩⟩
def xe230 : xME := (⟨"OverInDinghyModel", "plainSize", "(I)I"⟩, prog_12_method_85_code, 2, (some .int), 10, 1, 1, 1)
set_option maxRecDepth 30000 in
theorem xm230 : mokE xe230 := Or.inr ⟨List.mem_of_getElem? (i := 1419) rfl, ⟨List.mem_of_getElem? (i := 87) (by decide +kernel), by decide +kernel, by decide +kernel, by decide +kernel⟩, by decide +kernel, Or.inr ⟨rfl, List.mem_of_getElem? (i := 1418) (by decide +kernel), List.mem_of_getElem? (i := 73) (by decide +kernel)⟩⟩
def xe231 : xME := (⟨"OverInDinghyModel", "lyingMark", "(II)I"⟩, prog_12_method_86_code, 3, (some .int), 10, 1, 2, 1)
set_option maxRecDepth 30000 in
theorem xm231 : mokE xe231 := Or.inr ⟨List.mem_of_getElem? (i := 1423) rfl, ⟨List.mem_of_getElem? (i := 87) (by decide +kernel), by decide +kernel, by decide +kernel, by decide +kernel⟩, by decide +kernel, Or.inr ⟨rfl, List.mem_of_getElem? (i := 1422) (by decide +kernel), List.mem_of_getElem? (i := 74) (by decide +kernel)⟩⟩
def xe232 : xME := (⟨"OverInDinghyModel", "otherSize", "(II)I"⟩, prog_12_method_88_code, 3, (some .int), 10, 2, 2, 1)
set_option maxRecDepth 30000 in
theorem xm232 : mokE xe232 := Or.inr ⟨List.mem_of_getElem? (i := 1427) rfl, ⟨List.mem_of_getElem? (i := 87) (by decide +kernel), by decide +kernel, by decide +kernel, by decide +kernel⟩, by decide +kernel, Or.inr ⟨rfl, List.mem_of_getElem? (i := 1426) (by decide +kernel), List.mem_of_getElem? (i := 75) (by decide +kernel)⟩⟩
def xe233 : xME := (⟨"OverInDinghyModel", "otherMark", "(II)I"⟩, prog_12_method_89_code, 4, (some .int), 10, 3, 2, 1)
set_option maxRecDepth 30000 in
theorem xm233 : mokE xe233 := Or.inr ⟨List.mem_of_getElem? (i := 1431) rfl, ⟨List.mem_of_getElem? (i := 87) (by decide +kernel), by decide +kernel, by decide +kernel, by decide +kernel⟩, by decide +kernel, Or.inr ⟨rfl, List.mem_of_getElem? (i := 1430) (by decide +kernel), List.mem_of_getElem? (i := 76) (by decide +kernel)⟩⟩
def xe234 : xME := (⟨"OverInDinghyModel", "trace", "(I)I"⟩, prog_12_method_91_code, 2, (some .int), 10, 1, 1, 1)
set_option maxRecDepth 30000 in
theorem xm234 : mokE xe234 := Or.inr ⟨List.mem_of_getElem? (i := 1435) rfl, ⟨List.mem_of_getElem? (i := 87) (by decide +kernel), by decide +kernel, by decide +kernel, by decide +kernel⟩, by decide +kernel, Or.inr ⟨rfl, List.mem_of_getElem? (i := 1433) (by decide +kernel), List.mem_of_getElem? (i := 1434) (by decide +kernel)⟩⟩
def xe235 : xME := (⟨"OverInDinghyModel", "count", "(I)J"⟩, prog_12_method_92_code, 4, (some .long), 10, 1, 1, 1)
set_option maxRecDepth 30000 in
theorem xm235 : mokE xe235 := Or.inr ⟨List.mem_of_getElem? (i := 1439) rfl, ⟨List.mem_of_getElem? (i := 87) (by decide +kernel), by decide +kernel, by decide +kernel, by decide +kernel⟩, by decide +kernel, Or.inr ⟨rfl, List.mem_of_getElem? (i := 1437) (by decide +kernel), List.mem_of_getElem? (i := 1438) (by decide +kernel)⟩⟩
def xe236 : xME := (⟨"OverInDinghyModel", "status", "()I"⟩, prog_12_method_93_code, 1, (some .int), 10, 0, 0, 1)
set_option maxRecDepth 30000 in
theorem xm236 : mokE xe236 := Or.inr ⟨List.mem_of_getElem? (i := 1443) rfl, ⟨List.mem_of_getElem? (i := 87) (by decide +kernel), by decide +kernel, by decide +kernel, by decide +kernel⟩, by decide +kernel, Or.inr ⟨rfl, List.mem_of_getElem? (i := 1441) (by decide +kernel), List.mem_of_getElem? (i := 1442) (by decide +kernel)⟩⟩
def xe237 : xME := (⟨"OverInDinghy$Asks", "begin", "(LOverInDinghy$Asks;ILOverInDinghy$Club;II)J"⟩, prog_2_method_7_code, 7, (some .long), 1, 2, 5, 0)
set_option maxRecDepth 30000 in
theorem xm237 : mokE xe237 := Or.inr ⟨List.mem_of_getElem? (i := 924) rfl, ⟨List.mem_of_getElem? (i := 86) (by decide +kernel), by decide +kernel, by decide +kernel, by decide +kernel⟩, by decide +kernel, Or.inl ⟨rfl, List.mem_of_getElem? (i := 923) (by decide +kernel)⟩⟩
def xe238 : xME := (⟨"OverInDinghy$Asks", "begin", "(LOverInDinghy$Asks;ILOverInDinghy$Club;II)J"⟩, prog_2_method_7_code, 7, (some .long), 1, 3, 5, 0)
set_option maxRecDepth 30000 in
theorem xm238 : mokE xe238 := Or.inr ⟨List.mem_of_getElem? (i := 924) rfl, ⟨List.mem_of_getElem? (i := 86) (by decide +kernel), by decide +kernel, by decide +kernel, by decide +kernel⟩, by decide +kernel, Or.inl ⟨rfl, List.mem_of_getElem? (i := 923) (by decide +kernel)⟩⟩
def xe239 : xME := (⟨"OverInDinghy$Asks", "begin", "(LOverInDinghy$Asks;ILOverInDinghy$Club;II)J"⟩, prog_2_method_7_code, 7, (some .long), 1, 4, 5, 0)
set_option maxRecDepth 30000 in
theorem xm239 : mokE xe239 := Or.inr ⟨List.mem_of_getElem? (i := 924) rfl, ⟨List.mem_of_getElem? (i := 86) (by decide +kernel), by decide +kernel, by decide +kernel, by decide +kernel⟩, by decide +kernel, Or.inl ⟨rfl, List.mem_of_getElem? (i := 923) (by decide +kernel)⟩⟩
def xmt11 : List xME := [xe220, xe221, xe222, xe223, xe224, xe225, xe226, xe227, xe228, xe229, xe230, xe231, xe232, xe233, xe234, xe235, xe236, xe237, xe238, xe239]
theorem xmt11_ok : ∀ e ∈ xmt11, mokE e := List.forall_mem_cons.mpr ⟨xm220, List.forall_mem_cons.mpr ⟨xm221, List.forall_mem_cons.mpr ⟨xm222, List.forall_mem_cons.mpr ⟨xm223, List.forall_mem_cons.mpr ⟨xm224, List.forall_mem_cons.mpr ⟨xm225, List.forall_mem_cons.mpr ⟨xm226, List.forall_mem_cons.mpr ⟨xm227, List.forall_mem_cons.mpr ⟨xm228, List.forall_mem_cons.mpr ⟨xm229, List.forall_mem_cons.mpr ⟨xm230, List.forall_mem_cons.mpr ⟨xm231, List.forall_mem_cons.mpr ⟨xm232, List.forall_mem_cons.mpr ⟨xm233, List.forall_mem_cons.mpr ⟨xm234, List.forall_mem_cons.mpr ⟨xm235, List.forall_mem_cons.mpr ⟨xm236, List.forall_mem_cons.mpr ⟨xm237, List.forall_mem_cons.mpr ⟨xm238, List.forall_mem_cons.mpr ⟨xm239, fun _ h => absurd h List.not_mem_nil⟩⟩⟩⟩⟩⟩⟩⟩⟩⟩⟩⟩⟩⟩⟩⟩⟩⟩⟩⟩
def xe240 : xME := (⟨"OverInDinghy$Asks", "begin", "(LOverInDinghy$Asks;ILOverInDinghy$Club;II)J"⟩, prog_2_method_7_code, 7, (some .long), 1, 5, 5, 0)
set_option maxRecDepth 30000 in
theorem xm240 : mokE xe240 := Or.inr ⟨List.mem_of_getElem? (i := 924) rfl, ⟨List.mem_of_getElem? (i := 86) (by decide +kernel), by decide +kernel, by decide +kernel, by decide +kernel⟩, by decide +kernel, Or.inl ⟨rfl, List.mem_of_getElem? (i := 923) (by decide +kernel)⟩⟩
def xe241 : xME := (⟨"OverInDinghy$Asks", "begin", "(LOverInDinghy$Asks;ILOverInDinghy$Club;II)J"⟩, prog_2_method_7_code, 7, (some .long), 1, 6, 5, 0)
set_option maxRecDepth 30000 in
theorem xm241 : mokE xe241 := Or.inr ⟨List.mem_of_getElem? (i := 924) rfl, ⟨List.mem_of_getElem? (i := 86) (by decide +kernel), by decide +kernel, by decide +kernel, by decide +kernel⟩, by decide +kernel, Or.inl ⟨rfl, List.mem_of_getElem? (i := 923) (by decide +kernel)⟩⟩
def xe242 : xME := (⟨"OverInDinghy$Asks", "begin", "(LOverInDinghy$Asks;ILOverInDinghy$Club;II)J"⟩, prog_2_method_7_code, 7, (some .long), 1, 7, 5, 0)
set_option maxRecDepth 30000 in
theorem xm242 : mokE xe242 := Or.inr ⟨List.mem_of_getElem? (i := 924) rfl, ⟨List.mem_of_getElem? (i := 86) (by decide +kernel), by decide +kernel, by decide +kernel, by decide +kernel⟩, by decide +kernel, Or.inl ⟨rfl, List.mem_of_getElem? (i := 923) (by decide +kernel)⟩⟩
def xe243 : xME := (⟨"OverInDinghy$Asks", "begin", "(LOverInDinghy$Asks;ILOverInDinghy$Club;II)J"⟩, prog_2_method_7_code, 7, (some .long), 1, 8, 5, 0)
set_option maxRecDepth 30000 in
theorem xm243 : mokE xe243 := Or.inr ⟨List.mem_of_getElem? (i := 924) rfl, ⟨List.mem_of_getElem? (i := 86) (by decide +kernel), by decide +kernel, by decide +kernel, by decide +kernel⟩, by decide +kernel, Or.inl ⟨rfl, List.mem_of_getElem? (i := 923) (by decide +kernel)⟩⟩
def xmt12 : List xME := [xe240, xe241, xe242, xe243]
theorem xmt12_ok : ∀ e ∈ xmt12, mokE e := List.forall_mem_cons.mpr ⟨xm240, List.forall_mem_cons.mpr ⟨xm241, List.forall_mem_cons.mpr ⟨xm242, List.forall_mem_cons.mpr ⟨xm243, fun _ h => absurd h List.not_mem_nil⟩⟩⟩⟩
def xmt : List xME := xmt0 ++ xmt1 ++ xmt2 ++ xmt3 ++ xmt4 ++ xmt5 ++ xmt6 ++ xmt7 ++ xmt8 ++ xmt9 ++ xmt10 ++ xmt11 ++ xmt12
theorem xmt_app {a b : List xME} (ha : ∀ e ∈ a, mokE e) (hb : ∀ e ∈ b, mokE e) : ∀ e ∈ a ++ b, mokE e := fun e h => (List.mem_append.mp h).elim (ha e) (hb e)
theorem xmt_ok : ∀ e ∈ xmt, mokE e := xmt_app (xmt_app (xmt_app (xmt_app (xmt_app (xmt_app (xmt_app (xmt_app (xmt_app (xmt_app (xmt_app (xmt_app (xmt0_ok) xmt1_ok) xmt2_ok) xmt3_ok) xmt4_ok) xmt5_ok) xmt6_ok) xmt7_ok) xmt8_ok) xmt9_ok) xmt10_ok) xmt11_ok) xmt12_ok
def xed : xME := (⟨"", "", ""⟩, ⟨#[]⟩, 0, none, 0, 0, 0, 2)
def xe (y : Nat) : xME := xmt.getD y xed
theorem xe_ok (y : Nat) : mokE (xe y) := by
  unfold xe
  rw [List.getD_eq_getElem?_getD]
  cases h : xmt[y]? with
  | none => exact Or.inl rfl
  | some e => exact xmt_ok e (List.mem_of_getElem? h)
end
section
/-- method links: own class, index, call number -/
def xlm : List (Nat × Nat × Nat × Nat) := [(0, 67, 6464, 387), (0, 73, 7178, 391), (0, 77, 7944, 396), (0, 81, 8458, 400), (0, 85, 9736, 408), (0, 92, 10504, 412), (0, 99, 11784, 420), (0, 103, 12552, 424), (0, 107, 14214, 439), (0, 112, 14918, 444), (0, 120, 16134, 452), (0, 135, 33412, 568), (0, 142, 35332, 581), (0, 145, 35972, 585), (0, 151, 36612, 589), (0, 159, 37892, 598), (0, 162, 38532, 602), (0, 166, 40388, 614), (0, 171, 41093, 619), (0, 174, 41732, 623), (0, 190, 43012, 696), (0, 194, 44932, 697), (0, 197, 50052, 698), (0, 209, 54596, 707), (0, 213, 55360, 712), (0, 219, 57728, 729), (0, 226, 58944, 737), (0, 229, 61001, 747), (0, 233, 66633, 787), (0, 239, 51972, 795), (0, 242, 59648, 796), (0, 246, 68544, 801), (0, 249, 71304, 814), (0, 252, 72647, 822), (0, 256, 74439, 835), (0, 264, 75648, 844), (0, 269, 76352, 847), (0, 275, 77568, 857), (0, 279, 78208, 858), (0, 285, 80256, 870), (0, 289, 81418, 878), (0, 293, 83264, 890), (0, 296, 84544, 897), (0, 299, 85248, 900), (0, 302, 86659, 910), (0, 311, 90312, 941), (0, 317, 90948, 946), (0, 320, 91588, 951), (1, 13, 84544, 903), (1, 29, 83264, 914), (1, 33, 87168, 915), (1, 37, 152000, 922), (1, 37, 152640, 922), (1, 37, 153280, 922), (1, 37, 153920, 922), (1, 37, 154560, 922), (1, 37, 155200, 922), (1, 37, 155840, 922), (1, 47, 88451, 925), (2, 65, 1408, 460), (2, 83, 35332, 711), (2, 87, 43716, 635), (2, 91, 44420, 639), (2, 95, 45572, 647), (2, 99, 46276, 651), (2, 102, 35972, 950), (2, 105, 36612, 955), (2, 108, 42436, 627), (2, 112, 43012, 631), (2, 115, 44932, 643), (2, 118, 46916, 655), (2, 121, 48132, 666), (2, 125, 49476, 673), (2, 128, 51332, 684), (2, 131, 39300, 606), (2, 135, 50052, 677), (2, 143, 47493, 659), (2, 147, 38532, 665), (2, 158, 51972, 688), (4, 9, 44420, 715), (4, 15, 55872, 716), (4, 21, 56448, 720), (4, 25, 46276, 723), (4, 39, 35972, 719), (4, 47, 59648, 740), (4, 50, 69248, 804), (4, 54, 69888, 807), (4, 57, 71880, 873), (5, 7, 76928, 850), (5, 13, 77568, 853), (6, 22, 16708, 456), (6, 27, 17350, 461), (6, 30, 20614, 479), (6, 36, 21894, 488), (6, 40, 31494, 554), (6, 46, 32134, 558), (6, 51, 21318, 484), (6, 55, 30278, 544), (6, 73, 30790, 549), (6, 101, 32772, 563), (6, 105, 29638, 540), (6, 129, 22514, 492), (6, 134, 23858, 502), (6, 138, 17984, 465), (6, 142, 18630, 468), (6, 145, 19264, 472), (6, 148, 19910, 475), (7, 22, 71880, 826), (7, 28, 73095, 827), (7, 32, 73735, 831), (8, 31, 71880, 818), (8, 35, 9736, 945), (9, 29, 33412, 751), (9, 41, 61641, 753), (9, 54, 62281, 758), (9, 58, 62784, 763), (9, 62, 63561, 766), (9, 68, 35972, 757), (9, 71, 64201, 770), (9, 80, 64768, 774), (9, 83, 65481, 777), (9, 87, 66185, 781), (9, 91, 42436, 786), (9, 98, 36612, 785), (10, 64, 94912, 1072), (10, 68, 94144, 1068), (10, 76, 95499, 1077), (10, 96, 99979, 1109), (10, 106, 100544, 1114), (10, 109, 101184, 1117), (10, 121, 103819, 1133), (10, 125, 99275, 1105), (10, 128, 105035, 1141), (10, 132, 103179, 1129), (10, 136, 102475, 1124), (10, 142, 104523, 1137), (10, 148, 105675, 1146), (10, 151, 107083, 1155), (10, 155, 108299, 1164), (10, 158, 101835, 1120), (10, 163, 106315, 1151), (10, 168, 107595, 1160), (10, 180, 111563, 1185), (10, 183, 115403, 1210), (10, 187, 115968, 1214), (10, 191, 110848, 1182), (10, 195, 119243, 1237), (10, 198, 122443, 1257), (10, 201, 123147, 1261), (10, 205, 114891, 1206), (10, 209, 110219, 1177), (10, 214, 112139, 1189), (10, 219, 113419, 1198), (10, 222, 114123, 1202), (10, 234, 118539, 1231), (10, 237, 119883, 1241), (10, 240, 120523, 1245), (10, 243, 121803, 1253), (10, 246, 123723, 1265), (10, 249, 125579, 1277), (10, 252, 118027, 1227), (10, 256, 121227, 1249), (10, 259, 124363, 1269), (10, 262, 125003, 1273), (10, 269, 117387, 1223), (10, 274, 128331, 1294), (10, 283, 132107, 1319), (10, 290, 130699, 1311), (10, 299, 131403, 1315), (10, 304, 133888, 1332), (10, 307, 136523, 1349), (10, 314, 135307, 1341), (10, 318, 135819, 1345), (10, 321, 139008, 1363), (10, 325, 137728, 1357), (10, 328, 138432, 1360), (10, 332, 139712, 1366), (10, 342, 143499, 1392), (10, 347, 144768, 1401), (10, 353, 146699, 1412), (10, 356, 147339, 1416), (10, 359, 148043, 1420), (10, 362, 148683, 1424), (10, 365, 146123, 1408), (10, 368, 149323, 1428), (11, 13, 6026, 383), (11, 17, 93707, 1064), (11, 18, 9226, 404), (11, 21, 96267, 1082), (11, 22, 11274, 416), (11, 26, 97035, 1086), (11, 27, 12938, 431), (11, 31, 97419, 1090), (11, 34, 13642, 435), (11, 38, 98123, 1094), (11, 39, 15434, 448), (11, 43, 98635, 1101), (11, 44, 33994, 573), (11, 48, 108875, 1169), (11, 49, 34762, 577), (11, 53, 109643, 1173), (11, 54, 37258, 594), (11, 57, 112779, 1194), (11, 58, 39882, 610), (11, 61, 116683, 1217), (11, 62, 52682, 692), (11, 65, 126283, 1281), (11, 66, 53322, 699), (11, 69, 126923, 1285), (11, 70, 54090, 703), (11, 74, 127691, 1289), (11, 75, 57098, 725), (11, 78, 128779, 1299), (11, 79, 58378, 733), (11, 82, 129419, 1303), (11, 83, 60362, 743), (11, 86, 130123, 1307), (11, 87, 67402, 791), (11, 90, 132683, 1323), (11, 91, 67978, 797), (11, 94, 133259, 1327), (11, 95, 70730, 810), (11, 98, 134731, 1335), (11, 99, 75210, 840), (11, 102, 137291, 1353), (11, 103, 78986, 861), (11, 106, 140427, 1369), (11, 107, 79562, 866), (11, 110, 141003, 1375), (11, 111, 80778, 874), (11, 114, 141579, 1380), (11, 115, 82058, 882), (11, 118, 142219, 1384), (11, 119, 82698, 886), (11, 122, 142859, 1388), (11, 123, 84042, 893), (11, 126, 144203, 1396), (11, 127, 85962, 906), (11, 130, 145483, 1404), (11, 131, 89098, 932), (11, 135, 149899, 1432), (11, 136, 89738, 937), (11, 139, 150539, 1436), (11, 140, 92234, 956), (11, 143, 151115, 1440), (13, 335, 23154, 496), (13, 492, 24434, 506), (13, 495, 25088, 510), (13, 1059, 26432, 518), (14, 9, 25728, 513)]
theorem xlm_ok : ∀ r ∈ xlm, lw_tbl[r.2.2.2]? = some (Cond.methodLink (cn r.1) r.2.1 (xe (r.2.2.1 / 640)).1) := by decide +kernel
theorem xlm_n : ∀ r ∈ xlm, (r.2.2.1 / 64) % 10 = (xe (r.2.2.1 / 640)).2.2.2.2.2.2.1 + (xe (r.2.2.1 / 640)).2.2.2.2.2.2.2 ∧ (xe (r.2.2.1 / 640)).2.2.2.2.2.2.2 ≠ 2 ∧ ((xe (r.2.2.1 / 640)).2.2.2.2.2.2.2 = 1 → (r.2.2.1 % 64 = 50 ∧ (xe (r.2.2.1 / 640)).1.cls = "java/lang/String") ∨ (xcl[r.2.2.1 % 64 - 3]?).map (fun q => q.1) = some (xe (r.2.2.1 / 640)).1.cls ∧ 3 ≤ r.2.2.1 % 64) := by decide +kernel
/-- field links: own class, index, field number -/
def xlf : List (Nat × Nat × Nat × Nat) := [(0, 12, 224, 346), (0, 19, 225, 347), (0, 26, 226, 348), (0, 30, 227, 349), (0, 33, 228, 350), (0, 36, 229, 351), (0, 42, 230, 352), (0, 49, 231, 353), (0, 56, 232, 354), (0, 63, 233, 355), (0, 88, 161, 116), (0, 96, 160, 114), (0, 116, 97, 134), (0, 124, 103, 140), (0, 127, 234, 356), (0, 132, 104, 142), (0, 139, 36, 181), (0, 148, 46, 214), (0, 156, 49, 223), (0, 178, 35, 178), (0, 181, 42, 199), (0, 184, 43, 203), (0, 187, 44, 207), (0, 200, 45, 209), (0, 203, 47, 218), (0, 206, 50, 227), (0, 223, 41, 195), (0, 236, 198, 298), (0, 259, 128, 321), (0, 306, 1, 340), (0, 308, 0, 338), (0, 314, 37, 186), (0, 323, 33, 174), (0, 326, 235, 357), (1, 9, 0, 337), (1, 20, 1, 339), (1, 24, 42, 197), (1, 51, 44, 206), (1, 58, 43, 201), (2, 9, 38, 187), (2, 15, 39, 189), (2, 18, 40, 191), (2, 21, 41, 193), (2, 24, 42, 196), (2, 27, 43, 200), (2, 30, 44, 204), (2, 33, 45, 208), (2, 36, 46, 210), (2, 39, 47, 215), (2, 42, 48, 219), (2, 45, 49, 221), (2, 48, 50, 224), (2, 51, 34, 175), (2, 55, 35, 177), (2, 59, 36, 179), (2, 62, 37, 182), (2, 71, 32, 170), (2, 74, 33, 172), (2, 138, 64, 274), (3, 7, 64, 273), (3, 13, 65, 275), (4, 31, 37, 184), (4, 35, 46, 211), (4, 43, 47, 216), (6, 11, 96, 132), (6, 15, 97, 133), (6, 19, 98, 135), (6, 43, 100, 137), (6, 59, 102, 139), (6, 62, 32, 171), (6, 65, 33, 173), (6, 70, 34, 176), (6, 77, 36, 180), (6, 80, 38, 188), (6, 84, 39, 190), (6, 87, 40, 192), (6, 90, 41, 194), (6, 95, 37, 185), (6, 98, 99, 136), (6, 108, 46, 213), (6, 111, 47, 217), (6, 114, 48, 220), (6, 117, 50, 225), (6, 120, 101, 138), (6, 123, 103, 141), (6, 126, 104, 143), (7, 9, 128, 320), (7, 15, 129, 322), (7, 18, 130, 323), (8, 9, 160, 113), (8, 13, 161, 115), (8, 16, 162, 117), (9, 14, 192, 291), (9, 21, 193, 292), (9, 25, 194, 293), (9, 33, 197, 296), (9, 38, 198, 297), (9, 45, 195, 294), (9, 48, 196, 295), (9, 51, 37, 183), (9, 65, 46, 212), (9, 74, 42, 198), (9, 77, 44, 205), (9, 95, 49, 222), (9, 101, 43, 202), (9, 110, 50, 226), (10, 9, 258, 968), (10, 13, 259, 969), (10, 16, 260, 970), (10, 19, 261, 971), (10, 22, 262, 972), (10, 25, 264, 974), (10, 28, 265, 975), (10, 31, 276, 986), (10, 34, 281, 991), (10, 37, 282, 992), (10, 40, 283, 993), (10, 44, 284, 994), (10, 47, 285, 995), (10, 50, 286, 996), (10, 53, 256, 966), (10, 57, 257, 967), (10, 82, 266, 976), (10, 89, 268, 978), (10, 93, 269, 979), (10, 100, 271, 981), (10, 103, 270, 980), (10, 112, 272, 982), (10, 115, 273, 983), (10, 118, 274, 984), (10, 171, 267, 977), (10, 176, 263, 973), (10, 226, 275, 985), (10, 280, 277, 987), (10, 287, 278, 988), (10, 293, 279, 989), (10, 296, 280, 990), (10, 350, 287, 997)]
def xfd (f : Nat) : String × String × String × Bool := match xcl[f / 32]? with | some q => q.2.1 (f % 32) | none => ("", "", "", false)
theorem xlf_ok : ∀ r ∈ xlf, lw_tbl[r.2.2.2]? = some (Cond.fieldLink (cn r.1) r.2.1 (xfd r.2.2.1).1 (xfd r.2.2.1).2.1 (xfd r.2.2.1).2.2.1) ∧ (∃ q, xcl[r.2.2.1 / 32]? = some q ∧ r.2.2.1 % 32 < q.2.2) := by
  have h1 : ∀ r ∈ xlf, lw_tbl[r.2.2.2]? = some (Cond.fieldLink (cn r.1) r.2.1 (xfd r.2.2.1).1 (xfd r.2.2.1).2.1 (xfd r.2.2.1).2.2.1) := by decide +kernel
  have h2 : ∀ r ∈ xlf, ((xcl[r.2.2.1 / 32]?).map (fun q => decide (r.2.2.1 % 32 < q.2.2))) = some true := by decide +kernel
  intro r hr
  refine ⟨h1 r hr, ?_⟩
  have h3 := h2 r hr
  cases hq : xcl[r.2.2.1 / 32]? with
  | none => rw [hq] at h3; simp at h3
  | some q => rw [hq] at h3; exact ⟨q, rfl, by simpa using h3⟩
/-- constants: own class, index, value -/
def xlc : List (Nat × Nat × Int × Nat) := [(0, 170, 999999, 618), (0, 307, -1000000, 936), (4, 46, -1000000, 732), (9, 37, -1000000, 752), (10, 92, -1000000, 1113)]
theorem xlc_ok : ∀ r ∈ xlc, lw_tbl[r.2.2.2]? = some (Cond.constant (cn r.1) r.2.1 (Int32.ofInt r.2.2.1)) := by decide +kernel
def xll : List (Nat × Nat × Int × Nat) := [(0, 71, -9000000000000000001, 390), (0, 110, -9000000000000000003, 443), (0, 130, -9000000000000000100, 567), (0, 154, -9000000000000000002, 593), (0, 262, -1000000, 839), (0, 273, 100, 856), (0, 283, 1000, 865), (0, 329, -9000000000000000010, 395), (1, 54, 2, 929), (1, 56, 1000, 930), (1, 61, 500, 931), (3, 17, 16807, 663), (3, 19, 2147483647, 664), (4, 29, -1000000, 724), (10, 60, -9000000000000000010, 1081), (10, 62, 7, 1071), (10, 72, 2, 1075), (10, 74, -9000000000000000001, 1076), (10, 80, 8, 1098), (10, 85, -9000000000000000003, 1099), (10, 87, 255, 1100), (10, 140, 7562593, 1128), (10, 146, 7173476, 1145), (10, 161, 1651466612, 1150), (10, 166, 1751215716, 1159), (10, 174, -9000000000000000100, 1168), (10, 212, 3, 1181), (10, 217, -9000000000000000002, 1193), (10, 230, 16807, 1235), (10, 232, 2147483647, 1236), (10, 265, 60, 1221), (10, 267, 999999, 1222), (10, 272, 100, 1293), (10, 278, -1000000, 1298), (10, 302, 4, 1331), (10, 310, 20, 1339), (10, 312, 99, 1340), (10, 336, 999, 1373), (10, 338, 1000, 1374), (10, 340, 9, 1379), (10, 345, 5, 1400), (11, 32, 4294967295, 1444)]
theorem xll_ok : ∀ r ∈ xll, lw_tbl[r.2.2.2]? = some (Cond.constantLong (cn r.1) r.2.1 (Int64.ofInt r.2.2.1)) := by decide +kernel
def xla : List (Nat × Nat × Nat) := [(8, 25, 428), (2, 77, 572), (9, 104, 762)]
theorem xla_ok : ∀ r ∈ xla, lw_tbl[r.2.2]? = some (Cond.methodLink (cn r.1) r.2.1 arraycopyName) := by decide +kernel
def xlx : List (Nat × Nat × Nat) := [(2, 150, 681)]
theorem xlx_ok : ∀ r ∈ xlx, lw_tbl[r.2.2]? = some (Cond.methodLink (cn r.1) r.2.1 Lib.Math.max.name) := by decide +kernel
theorem xlx_st : Cond.static Lib.Math.max.name ∈ lw_tbl := List.mem_of_getElem? (i := 682) (by decide +kernel)
set_option maxRecDepth 30000 in
theorem xlx_co : Cond.code Lib.Math.max.name Lib.Math.max.code 2 (some .int) ∈ lw_tbl := List.mem_of_getElem? (i := 683) rfl
def xly : List (Nat × Nat × Nat) := [(2, 155, 670)]
theorem xly_ok : ∀ r ∈ xly, lw_tbl[r.2.2]? = some (Cond.methodLink (cn r.1) r.2.1 Lib.Math.min.name) := by decide +kernel
theorem xly_st : Cond.static Lib.Math.min.name ∈ lw_tbl := List.mem_of_getElem? (i := 671) (by decide +kernel)
set_option maxRecDepth 30000 in
theorem xly_co : Cond.code Lib.Math.min.name Lib.Math.min.code 2 (some .int) ∈ lw_tbl := List.mem_of_getElem? (i := 672) rfl
theorem xs0 : Cond.fieldLink "OverInDinghy$Asks" 17 "OverInDinghy$Asks" "PARENT" "[I" ∈ lw_tbl := List.mem_of_getElem? (i := 904) (by decide +kernel)
theorem xs1 : Cond.fieldLink "OverInDinghy$Asks" 41 "OverInDinghy$Asks" "SIZE_BODY" "[I" ∈ lw_tbl := List.mem_of_getElem? (i := 918) (by decide +kernel)
theorem xs2 : Cond.fieldLink "OverInDinghy$Asks" 44 "OverInDinghy$Asks" "MARK_BODY" "[I" ∈ lw_tbl := List.mem_of_getElem? (i := 920) (by decide +kernel)
theorem xs3 : Cond.fieldLink "java/lang/String" 38 "java/lang/String" "COMPACT_STRINGS" "Z" ∈ lw_tbl := List.mem_of_getElem? (i := 500) (by decide +kernel)
theorem xs4 : Cond.fieldLink "java/lang/String" 1053 "jdk/internal/util/Preconditions" "SIOOBE_FORMATTER" "Ljava/util/function/BiFunction;" ∈ lw_tbl := List.mem_of_getElem? (i := 516) (by decide +kernel)
theorem xs5 : Cond.fieldLink "java/lang/String" 9 "java/lang/String" "value" "[B" ∈ lw_tbl := List.mem_of_getElem? (i := 1445) (by decide +kernel)
theorem xs6 : Cond.fieldLink "java/lang/String" 15 "java/lang/String" "coder" "B" ∈ lw_tbl := List.mem_of_getElem? (i := 1446) (by decide +kernel)
end
section
/-! ===== THE LAYER: an abstract memory, a weakest-precondition function over resolved instructions ===== -/
abbrev xM : Type := (Nat → Nat → Int32) × (Nat → Nat → Int64)
def xa (m : xM) (k : Nat) (f : Nat → Int32) : xM := (fun q => if q = k then f else m.1 q, m.2)
def xb (m : xM) (k : Nat) (f : Nat → Int64) : xM := (m.1, fun q => if q = k then f else m.2 q)
/-- launch, tables, addresses, array classes (int, byte, boolean), the value of the formatter static -/
abbrev xG : Type := Launch × va_G × (Nat → Nat) × ClassId × ClassId × ClassId × Value
def cv (G : xG) (v : Value) : Value := match v with
  | .ref k => .ref (G.2.2.1 k)
  | .null => G.2.2.2.2.2.2
  | v => v
def xclubL : List (Nat × Nat) := [(4, 0), (0, 6), (0, 6), (0, 6), (0, 6), (0, 6), (0, 6), (0, 6), (0, 6), (0, 12), (0, 12), (0, 12), (0, 12), (0, 12)]
/-- the cells' shapes: kind (0 ints, 1 bytes, 2 booleans, 3 + class: an object), length -/
def xshL : List (Nat × Nat) := [(10, 0), (8, 0), (0, 8), (0, 8), (0, 320), (6, 0), (1, 400)] ++ xclubL ++ xclubL ++ xclubL ++ xclubL ++ [(5, 0), (9, 0)] ++ xclubL ++ [(5, 0), (0, 81), (7, 0), (0, 6), (0, 6), (3, 0), (0, 16)] ++ [(11, 0), (0, 8), (0, 8), (0, 320), (0, 65), (0, 65), (0, 49), (0, 400), (0, 49), (0, 6), (0, 6), (2, 2), (0, 130), (0, 98), (0, 16)]
def sh (k : Nat) : Nat × Nat := if k < 1000 then xshL.getD k (99, 0) else if k < 1004 then (50, 0) else if k < 1010 then (99, 0) else if k < 1012 then (51, 3) else if k < 1014 then (51, 4) else if k < 1020 then (99, 0) else if k < 1023 then (52, 6) else (99, 0)
/-- what the fixed cells hold: the texts' bytes, the tables of Asks -/
def xc (k : Nat) : Nat → Int32 := match k with
  | 1010 => fun j => [115, 101, 97].getD j 0
  | 1011 => fun j => [109, 117, 100].getD j 0
  | 1012 => fun j => [98, 111, 97, 116].getD j 0
  | 1013 => fun j => [104, 97, 110, 100].getD j 0
  | 1020 => fun j => [-1, 0, 0, 2, 3, 0].getD j 0
  | 1021 => fun j => [10, 0, 11, 12, 14, 13].getD j 0
  | 1022 => fun j => [20, 23, 21, 0, 22, 24].getD j 0
  | _ => fun _ => 0
/-- which cell a reference field holds -/
def rt (k j : Nat) : Nat := match (sh k).1 with
  | 10 => [1, 5, 7, 21, 35, 49, 63, 64, 81, 84].getD j 0
  | 8 => k + 1 + j
  | 6 => k + 1
  | 4 => k + j - 5
  | 9 => [65, 79, 80].getD j 0
  | 7 => k + 1 + j
  | 3 => k + 1
  | 11 => match j with | 2 => 87 | 3 => 88 | 4 => 89 | 5 => 90 | 6 => 91 | 8 => 92 | 9 => 93 | 20 => 94 | 25 => 95 | 26 => 96 | 27 => 97 | 28 => 98 | 29 => 99 | 30 => 100 | _ => 0
  | _ => 0
def xN (ci : Nat) : Nat := (xcl.getD ci ("", xF0, 0)).2.2
def xfv (G : xG) (m : xM) (k ci j : Nat) : Value := match xty ci j with
  | .int => .int (m.1 k j)
  | .boolean => .int (m.1 k j)
  | .long => .long (m.2 k j)
  | _ => .ref (G.2.2.1 (rt k j))
def xcell (G : xG) (m : xM) (k : Nat) : va_E := match (sh k).1 with
  | 0 => .inl (G.2.2.2.1, (sh k).2, .inl (m.1 k))
  | 1 => .inl (G.2.2.2.2.1, (sh k).2, .inl (m.1 k))
  | 2 => .inl (G.2.2.2.2.2.1, (sh k).2, .inl (m.1 k))
  | t + 3 => .inr (t, (List.range (xN t)).map (xfv G m k t))
def wl (G : xG) (m : xM) : va_W := (List.range 101).map (fun k => (G.2.2.1 k, xcell G m k))
theorem wl_at (G : xG) (m : xM) {k : Nat} (h : k < 101) : (wl G m)[k]? = some (G.2.2.1 k, xcell G m k) := by
  unfold wl
  rw [List.getElem?_map, List.getElem?_range h]
  rfl
theorem xcell_eq {G : xG} {m m' : xM} {k : Nat} (h1 : m'.1 k = m.1 k) (h2 : m'.2 k = m.2 k) : xcell G m' k = xcell G m k := by
  unfold xcell xfv
  rw [h1, h2]
theorem wl_set {G : xG} {m m' : xM} {k : Nat} {e : va_E} (hk : k < 101) (h : ∀ q, q ≠ k → m'.1 q = m.1 q ∧ m'.2 q = m.2 q) (he : e = xcell G m' k) : (wl G m).set k (G.2.2.1 k, e) = wl G m' := by
  subst he
  apply List.ext_getElem?
  intro i
  by_cases hi : i = k
  · subst hi
    rw [List.getElem?_set_self (by simp [wl, hk]), wl_at G m' hk]
  · rw [List.getElem?_set_ne (Ne.symm hi)]
    by_cases hl : i < 101
    · rw [wl_at G m hl, wl_at G m' hl, xcell_eq (h i hi).1 (h i hi).2]
    · rw [List.getElem?_eq_none (by simp [wl]; omega), List.getElem?_eq_none (by simp [wl]; omega)]
theorem xshL_len : xshL.length = 101 := by decide +kernel
theorem sh_lt {k : Nat} (h : (sh k).1 < 12) : k < 101 := by
  unfold sh at h
  by_cases h1 : k < 1000
  · rw [if_pos h1] at h
    by_cases h2 : k < 101
    · exact h2
    · rw [List.getD_eq_getElem?_getD, List.getElem?_eq_none (by rw [xshL_len]; omega)] at h
      simp at h
  · rw [if_neg h1] at h
    split at h
    · simp at h
    · split at h
      · simp at h
      · split at h
        · simp at h
        · split at h
          · simp at h
          · split at h
            · simp at h
            · split at h <;> simp at h
def xA (G : xG) : Nat → Prop := fun q => ∃ k, k < 101 ∧ q = G.2.2.1 k
def xInj (G : xG) : Prop := (∀ i j, i < 101 → j < 101 → G.2.2.1 i = G.2.2.1 j → i = j) ∧ G.2.2.2.2.2.2.category = 1
theorem xD {G : xG} (h : xInj G) (m : xM) : va_D (xA G) (wl G m) := by
  have key : ∀ (i : Nat) (p : Nat × va_E), (wl G m)[i]? = some p → i < 101 ∧ p.1 = G.2.2.1 i := by
    intro i p hp
    have hl : i < 101 := by
      have := (List.getElem?_eq_some_iff.mp hp).1
      simpa [wl] using this
    rw [wl_at G m hl] at hp
    cases hp
    exact ⟨hl, rfl⟩
  refine ⟨fun i j p q hp hq e => ?_, fun i p hp => ⟨i, (key i p hp).1, (key i p hp).2⟩⟩
  obtain ⟨a1, a2⟩ := key i p hp
  obtain ⟨b1, b2⟩ := key j q hq
  exact h.1 i j a1 b1 (by rw [← a2, ← b2]; exact e)
abbrev xtys (G : xG) : List (ClassId × FieldType) := [(G.2.2.2.1, .int), (G.2.2.2.2.1, .byte), (G.2.2.2.2.2.1, .boolean)]
def xKs (G : xG) (s : State) : Prop := va_K G.2.1 xcl (xtys G) s
def xtxt : List (Nat × String × Nat) := [(49, "sea", 3), (68, "mud", 3), (34, "boat", 4), (93, "hand", 4)]
def xsta : List String := ["PARENT", "SIZE_BODY", "MARK_BODY"]
/-- what lies outside: the tables of Asks, two statics of the JDK's, the four texts -/
def xEx (G : xG) (s : State) (H : Heap) : Prop :=
  (∀ i, i < 3 → va_Z "OverInDinghy$Asks" (xsta.getD i "") "[I" (.ref (G.2.2.1 (1020 + i))) (xA G) s H ∧ va_T .int (G.2.2.1 (1020 + i)) 6 (fun j => .int (xc (1020 + i) j)) (xA G) s H) ∧
  va_Z "java/lang/String" "COMPACT_STRINGS" "Z" (.int 1) (xA G) s H ∧
  va_Z "jdk/internal/util/Preconditions" "SIOOBE_FORMATTER" "Ljava/util/function/BiFunction;" G.2.2.2.2.2.2 (xA G) s H ∧
  (∀ i, i < 4 → vk_R "OverInDinghy$Reader" (xtxt.getD i (0, "", 0)).1 (xtxt.getD i (0, "", 0)).2.1 (G.2.2.1 (1000 + i)) s) ∧
  (∀ i, i < 4 → va_O "java/lang/String" (G.2.2.1 (1000 + i)) (xA G) s H ∧ va_OF "java/lang/String" "coder" "B" (.int 0) (G.2.2.1 (1000 + i)) (xA G) s H ∧ va_OF "java/lang/String" "value" "[B" (.ref (G.2.2.1 (1010 + i))) (G.2.2.1 (1000 + i)) (xA G) s H ∧ va_T .byte (G.2.2.1 (1010 + i)) (xtxt.getD i (0, "", 0)).2.2 (fun j => .int (xc (1010 + i) j)) (xA G) s H)
theorem xEx.go {G : xG} {s U : State} {H H1 : Heap} (h : xEx G s H) (hW : s.WarmedH U.vm) (hq : ∀ a : Nat, a < H.size → ¬ xA G a → H1[a]? = H[a]?) : xEx G U H1 := by
  obtain ⟨h1, h2, h3, h4, h5⟩ := h
  refine ⟨fun i hi => ⟨((h1 i hi).1.moved hW.alike).kept hq, ((h1 i hi).2.moved hW.alike).kept hq⟩, (h2.moved hW.alike).kept hq, (h3.moved hW.alike).kept hq, fun i hi => (h4 i hi).warm hW, fun i hi => ?_⟩
  obtain ⟨a1, a2, a3, a4⟩ := h5 i hi
  exact ⟨(va_O.moved hW.alike a1).kept hq, (va_OF.moved hW.alike a2).kept hq, (va_OF.moved hW.alike a3).kept hq, (va_T.moved hW.alike a4).kept hq⟩
theorem xEx.vm {G : xG} {s U : State} {H : Heap} (h : xEx G s H) (hv : U.vm = s.vm) : xEx G U H := by
  have ha : s.vm.Alike U.vm := by rw [hv]; exact Vm.Alike.refl _
  obtain ⟨h1, h2, h3, h4, h5⟩ := h
  refine ⟨fun i hi => ⟨(h1 i hi).1.moved ha, (h1 i hi).2.moved ha⟩, h2.moved ha, h3.moved ha, fun i hi => (h4 i hi).same hv, fun i hi => ?_⟩
  obtain ⟨a1, a2, a3, a4⟩ := h5 i hi
  exact ⟨va_O.moved ha a1, va_OF.moved ha a2, va_OF.moved ha a3, va_T.moved ha a4⟩
abbrev xQt : Type := Option Value → xM → Prop
def xPre (G : xG) (m : xM) (U : State) : Prop := va_P G.2.1 xcl (wl G m) U.heap ∧ xKs G U ∧ xEx G U U.heap
def xPost (G : xG) (Q : xQt) : Array Value → State → Outcome → State → Prop := fun _ st o t => (∃ (r : Option Value) (m' : xM), o = .returned (r.map (cv G)) ∧ Q r m' ∧ va_P G.2.1 xcl (wl G m') t.heap) ∧ va_F (xA G) st t
def rmd (d : Nat) : Room := { frames := d + 1, cells := 0, slots := 0, locals := 64 * (d + 1) }
abbrev ht (y : Nat) : Nat := (xe y).2.2.2.2.2.1
abbrev yw (y : Nat) : List Cond := .code (xe y).1 (xe y).2.1 (xe y).2.2.1 (xe y).2.2.2.1 :: xg_tbl
def Tri (G : xG) (y : Nat) (as : List Value) (m : xM) (Q : xQt) : Prop := xInj G → Met G.1 (xe y).1 (yw y) (rmd (ht y)) (va_Pc (as.map (cv G)) (xPre G m)) (xPost G Q) 0 0 (xA G)
def lrp (G : xG) (ls : List Value) (sl : Array Slot) (nL : Nat) : Prop := sl.size = nL ∧ lv_wf sl ∧ ∀ (i : Nat) (v : Value), ls[i]? = some v → v ≠ .null → sl[i]? = some (.val (cv G v))
def Cx (G : xG) (y : Nat) (p : Program) (s : State) (mid : MethodId) (args : Array Value) (meth : Method) (c : Code) : Prop :=
  p.tables.exec = Jvm.exec ∧ c.code = (xe y).2.1 ∧ c.maxLocals = (xe y).2.2.1 ∧ meth.sig.returnType = (xe y).2.2.2.1 ∧ meth.locks = false ∧ s.vm.findClass (cn (xe y).2.2.2.2.1) = some mid.cls ∧ (∀ w ∈ xg_tbl, w.before args s = true) ∧ xKs G s ∧ xEx G s s.heap ∧ xInj G
def VK (G : xG) (y : Nat) (Q : xQt) (pc : Nat) (ls st : List Value) (m : xM) : Prop :=
  ∀ (p : Program) (e : Env) (s : State) (mid : MethodId) (args : Array Value) (below : List Frame) (meth : Method) (c : Code) (H : Heap) (locs : List Loc) (sl : Array Slot), Cx G y p s mid args meth c → va_P G.2.1 xcl (wl G m) H → va_S (xA G) s.heap H locs → lrp G ls sl (xe y).2.2.1 →
    W p G.1 e (rmd (ht y)) s mid args below meth c H locs 0 0 (MQ below (xPost G Q) args s 0 0 (xA G)) (F0 mid pc sl (st.map (cv G)))
end
section
def p_i (st : List Value) (k : Int32 → List Value → Prop) : Prop := match st with
  | .int x :: st => k x st
  | _ => False
def p_l (st : List Value) (k : Int64 → List Value → Prop) : Prop := match st with
  | .long x :: st => k x st
  | _ => False
def p_r (st : List Value) (k : Nat → List Value → Prop) : Prop := match st with
  | .ref x :: st => k x st
  | _ => False
theorem p_i_of {st : List Value} {k : Int32 → List Value → Prop} (h : p_i st k) : ∃ x st', st = .int x :: st' ∧ k x st' := by
  match st, h with
  | .int x :: st, h => exact ⟨x, st, rfl, h⟩
theorem p_l_of {st : List Value} {k : Int64 → List Value → Prop} (h : p_l st k) : ∃ x st', st = .long x :: st' ∧ k x st' := by
  match st, h with
  | .long x :: st, h => exact ⟨x, st, rfl, h⟩
theorem p_r_of {st : List Value} {k : Nat → List Value → Prop} (h : p_r st k) : ∃ x st', st = .ref x :: st' ∧ k x st' := by
  match st, h with
  | .ref x :: st, h => exact ⟨x, st, rfl, h⟩
/-- a place of the locals may be stored to: no long stands before it -/
def okst : List Value → Nat → Prop
  | [], _ => False
  | _ :: _, 0 => True
  | .long _ :: _, 1 => False
  | .double _ :: _, 1 => False
  | _ :: _ :: _, 1 => True
  | _ :: [], 1 => False
  | _ :: l, n + 2 => okst l (n + 1)
/-- how many words values take -/
def wt : List Value → Nat
  | [] => 0
  | .int _ :: l => 1 + wt l
  | .ref _ :: l => 1 + wt l
  | _ :: l => 2 + wt l
def lt4 (st : List Value) : Prop := wt st ≤ 8
def nrw (rt : Option FieldType) (v : Int32) : Prop := match rt with
  | some .int => True
  | some .boolean => v &&& 1 = v
  | some .byte => v.toInt8.toInt32 = v
  | some .char => (v.toUInt32 % 65536).toInt32 = v
  | _ => False
def oI (v : Option Value) (k : Int32 → Prop) : Prop := match v with
  | some (.int x) => k x
  | _ => False
def oL (v : Option Value) (k : Int64 → Prop) : Prop := match v with
  | some (.long x) => k x
  | _ => False
def oR (v : Option Value) (k : Nat → Prop) : Prop := match v with
  | some (.ref x) => k x
  | _ => False
def ldI (ls : List Value) (i : Nat) (k : Int32 → Prop) : Prop := oI ls[i]? k
def ldL (ls : List Value) (i : Nat) (k : Int64 → Prop) : Prop := oL ls[i]? k
def ldR (ls : List Value) (i : Nat) (k : Nat → Prop) : Prop := oR ls[i]? k
theorem ldI_of {ls : List Value} {i : Nat} {k : Int32 → Prop} (h : ldI ls i k) : ∃ x, ls[i]? = some (.int x) ∧ k x := by
  unfold ldI oI at h
  split at h
  · next x hx => exact ⟨x, hx, h⟩
  · exact h.elim
theorem ldL_of {ls : List Value} {i : Nat} {k : Int64 → Prop} (h : ldL ls i k) : ∃ x, ls[i]? = some (.long x) ∧ k x := by
  unfold ldL oL at h
  split at h
  · next x hx => exact ⟨x, hx, h⟩
  · exact h.elim
theorem ldR_of {ls : List Value} {i : Nat} {k : Nat → Prop} (h : ldR ls i k) : ∃ x, ls[i]? = some (.ref x) ∧ k x := by
  unfold ldR oR at h
  split at h
  · next x hx => exact ⟨x, hx, h⟩
  · exact h.elim
/-- a switch by a table: the targets in order, else the other one -/
def swt (x : Int32) (jp : Int → Prop) (d : Int) (lo : Int) : List Int → Prop
  | [] => jp d
  | t :: ts => (x = Int32.ofInt lo → jp t) ∧ (¬ x = Int32.ofInt lo → swt x jp d (lo + 1) ts)
/-- one resolved instruction: what must hold ahead of it. nx: behind it; jp: at a place; Q: at the end; T: a call -/
def ex (nx : List Value → List Value → xM → Prop) (jp : Int → List Value → List Value → xM → Prop) (Q : xQt) (rt0 : Option FieldType) (T : Nat → List Value → xM → xQt → Prop) (i : Instr) (ls st : List Value) (m : xM) : Prop :=
  match i with
  | .iconst n => nx ls (.int (Int32.ofInt n) :: st) m
  | .goto_w n => nx ls (.long (Int64.ofInt n) :: st) m
  | .getstatic k => nx ls (.ref k :: st) m
  | .aconst_null => nx ls (.null :: st) m
  | .iload i => ldI ls i (fun x => nx ls (.int x :: st) m)
  | .lload i => ldL ls i (fun x => nx ls (.long x :: st) m)
  | .aload i => ldR ls i (fun x => nx ls (.ref x :: st) m)
  | .istore i => p_i st (fun x st => okst ls i ∧ nx (ls.set i (.int x)) st m)
  | .lstore i => p_l st (fun x st => okst ls i ∧ i + 1 < ls.length ∧ nx ((ls.set i (.long x)).set (i + 1) .null) st m)
  | .astore i => p_r st (fun x st => okst ls i ∧ nx (ls.set i (.ref x)) st m)
  | .iinc i n => ldI ls i (fun x => okst ls i ∧ nx (ls.set i (.int (x + Int32.ofInt n))) st m)
  | .iadd => p_i st (fun b st => p_i st (fun a st => nx ls (.int (a + b) :: st) m))
  | .isub => p_i st (fun b st => p_i st (fun a st => nx ls (.int (a - b) :: st) m))
  | .imul => p_i st (fun b st => p_i st (fun a st => nx ls (.int (a * b) :: st) m))
  | .iand => p_i st (fun b st => p_i st (fun a st => nx ls (.int (a &&& b) :: st) m))
  | .ior => p_i st (fun b st => p_i st (fun a st => nx ls (.int (a ||| b) :: st) m))
  | .ixor => p_i st (fun b st => p_i st (fun a st => nx ls (.int (a ^^^ b) :: st) m))
  | .idiv => p_i st (fun b st => p_i st (fun a st => ¬ b = 0 ∧ nx ls (.int (a / b) :: st) m))
  | .irem => p_i st (fun b st => p_i st (fun a st => ¬ b = 0 ∧ nx ls (.int (a - a / b * b) :: st) m))
  | .ishl => p_i st (fun b st => p_i st (fun a st => nx ls (.int (a <<< (b &&& 31)) :: st) m))
  | .ishr => p_i st (fun b st => p_i st (fun a st => nx ls (.int (a >>> (b &&& 31)) :: st) m))
  | .ineg => p_i st (fun a st => nx ls (.int (-a) :: st) m)
  | .ladd => p_l st (fun b st => p_l st (fun a st => nx ls (.long (a + b) :: st) m))
  | .lsub => p_l st (fun b st => p_l st (fun a st => nx ls (.long (a - b) :: st) m))
  | .lmul => p_l st (fun b st => p_l st (fun a st => nx ls (.long (a * b) :: st) m))
  | .land => p_l st (fun b st => p_l st (fun a st => nx ls (.long (a &&& b) :: st) m))
  | .lor => p_l st (fun b st => p_l st (fun a st => nx ls (.long (a ||| b) :: st) m))
  | .ldiv => p_l st (fun b st => p_l st (fun a st => ¬ b = 0 ∧ nx ls (.long (a / b) :: st) m))
  | .lrem => p_l st (fun b st => p_l st (fun a st => ¬ b = 0 ∧ nx ls (.long (a - a / b * b) :: st) m))
  | .lneg => p_l st (fun a st => nx ls (.long (-a) :: st) m)
  | .lshl => p_i st (fun b st => p_l st (fun a st => nx ls (.long (a <<< (b.toInt64 &&& 63)) :: st) m))
  | .lshr => p_i st (fun b st => p_l st (fun a st => nx ls (.long (a >>> (b.toInt64 &&& 63)) :: st) m))
  | .lcmp => p_l st (fun b st => p_l st (fun a st => nx ls (.int (lg_cmp a b) :: st) m))
  | .i2l => p_i st (fun a st => nx ls (.long a.toInt64 :: st) m)
  | .l2i => p_l st (fun a st => nx ls (.int a.toInt32 :: st) m)
  | .i2b => p_i st (fun a st => nx ls (.int a.toInt8.toInt32 :: st) m)
  | .i2s => p_i st (fun a st => nx ls (.int a.toInt16.toInt32 :: st) m)
  | .i2c => p_i st (fun a st => nx ls (.int (a.toUInt32 % 65536).toInt32 :: st) m)
  | .pop => p_i st (fun _ st => nx ls st m)
  | .dup => match st with
    | .int x :: st => nx ls (.int x :: .int x :: st) m
    | .ref x :: st => nx ls (.ref x :: .ref x :: st) m
    | _ => False
  | .dup2 => p_i st (fun b st => p_r st (fun a st => nx ls (.int b :: .ref a :: .int b :: .ref a :: st) m))
  | .goto t => jp t ls st m
  | .ifCond .eq t => p_i st (fun x st => (x = 0 → jp t ls st m) ∧ (¬ x = 0 → nx ls st m))
  | .ifCond .ne t => p_i st (fun x st => (x = 0 → nx ls st m) ∧ (¬ x = 0 → jp t ls st m))
  | .ifCond .lt t => p_i st (fun x st => (x < 0 → jp t ls st m) ∧ (¬ x < 0 → nx ls st m))
  | .ifCond .ge t => p_i st (fun x st => (0 ≤ x → jp t ls st m) ∧ (¬ 0 ≤ x → nx ls st m))
  | .ifCond .gt t => p_i st (fun x st => (0 < x → jp t ls st m) ∧ (¬ 0 < x → nx ls st m))
  | .ifCond .le t => p_i st (fun x st => (x ≤ 0 → jp t ls st m) ∧ (¬ x ≤ 0 → nx ls st m))
  | .if_icmp .eq t => p_i st (fun y st => p_i st (fun x st => (x = y → jp t ls st m) ∧ (¬ x = y → nx ls st m)))
  | .if_icmp .ne t => p_i st (fun y st => p_i st (fun x st => (x = y → nx ls st m) ∧ (¬ x = y → jp t ls st m)))
  | .if_icmp .lt t => p_i st (fun y st => p_i st (fun x st => (x < y → jp t ls st m) ∧ (¬ x < y → nx ls st m)))
  | .if_icmp .ge t => p_i st (fun y st => p_i st (fun x st => (y ≤ x → jp t ls st m) ∧ (¬ y ≤ x → nx ls st m)))
  | .if_icmp .gt t => p_i st (fun y st => p_i st (fun x st => (y < x → jp t ls st m) ∧ (¬ y < x → nx ls st m)))
  | .if_icmp .le t => p_i st (fun y st => p_i st (fun x st => (x ≤ y → jp t ls st m) ∧ (¬ x ≤ y → nx ls st m)))
  | .tableswitch d lo _ ts => p_i st (fun x st => swt x (fun t => jp t ls st m) d lo ts.toList)
  | .getfield f => p_r st (fun k st => (sh k).1 = f / 32 + 3 ∧ nx ls (.int (m.1 k (f % 32)) :: st) m)
  | .instanceof f => p_r st (fun k st => (sh k).1 = f / 32 + 3 ∧ nx ls (.long (m.2 k (f % 32)) :: st) m)
  | .checkcast f => p_r st (fun k st => (sh k).1 = f / 32 + 3 ∧ nx ls (.ref (rt k (f % 32)) :: st) m)
  | .putfield f => p_i st (fun v st => p_r st (fun k st => (sh k).1 = f / 32 + 3 ∧ nx ls st (xa m k (upd (m.1 k) (f % 32) v))))
  | .putstatic f => p_i st (fun v st => p_r st (fun k st => (sh k).1 = f / 32 + 3 ∧ (v = 0 ∨ v = 1) ∧ nx ls st (xa m k (upd (m.1 k) (f % 32) v))))
  | .anewarray f => p_l st (fun v st => p_r st (fun k st => (sh k).1 = f / 32 + 3 ∧ nx ls st (xb m k (vp_updL (m.2 k) (f % 32) v))))
  | .ldc_w _ => p_r st (fun k st => (sh k).1 = 50 ∧ nx ls (.ref (k + 10) :: st) m)
  | .ldc _ => p_r st (fun k st => (sh k).1 = 50 ∧ nx ls (.int 0 :: st) m)
  | .iaload => p_i st (fun i st => p_r st (fun k st => (sh k).1 = 0 ∧ vp_in i (sh k).2 ∧ nx ls (.int (m.1 k i.toNatClampNeg) :: st) m))
  | .baload => p_i st (fun i st => p_r st (fun k st => (sh k).1 = 1 ∧ vp_in i (sh k).2 ∧ nx ls (.int (m.1 k i.toNatClampNeg) :: st) m))
  | .daload => p_i st (fun i st => p_r st (fun k st => (sh k).1 = 2 ∧ vp_in i (sh k).2 ∧ nx ls (.int (m.1 k i.toNatClampNeg) :: st) m))
  | .aaload => p_i st (fun i st => p_r st (fun k st => (sh k).1 = 52 ∧ vp_in i (sh k).2 ∧ nx ls (.int (xc k i.toNatClampNeg) :: st) m))
  | .caload => p_i st (fun i st => p_r st (fun k st => (sh k).1 = 51 ∧ vp_in i (sh k).2 ∧ nx ls (.int (xc k i.toNatClampNeg) :: st) m))
  | .iastore => p_i st (fun v st => p_i st (fun i st => p_r st (fun k st => (sh k).1 = 0 ∧ vp_in i (sh k).2 ∧ nx ls st (xa m k (upd (m.1 k) i.toNatClampNeg v)))))
  | .bastore => p_i st (fun v st => p_i st (fun i st => p_r st (fun k st => (sh k).1 = 1 ∧ vp_in i (sh k).2 ∧ nx ls st (xa m k (upd (m.1 k) i.toNatClampNeg v.toInt8.toInt32)))))
  | .dastore => p_i st (fun v st => p_i st (fun i st => p_r st (fun k st => (sh k).1 = 2 ∧ vp_in i (sh k).2 ∧ (v = 0 ∨ v = 1) ∧ nx ls st (xa m k (upd (m.1 k) i.toNatClampNeg v)))))
  | .arraylength => p_r st (fun k st => (sh k).1 = 0 ∧ nx ls (.int (Int32.ofNat (sh k).2) :: st) m)
  | .castore => p_r st (fun k st => (sh k).1 = 51 ∧ nx ls (.int (Int32.ofNat (sh k).2) :: st) m)
  | .fadd => p_i st (fun b st => p_i st (fun a st => lt4 st ∧ nx ls (.int (if a < b then b else a) :: st) m))
  | .fsub => p_i st (fun b st => p_i st (fun a st => lt4 st ∧ nx ls (.int (if b < a then b else a) :: st) m))
  | .nop => p_i st (fun n st => p_i st (fun dp st => p_r st (fun b st => p_i st (fun sp st => p_r st (fun a st => lt4 st ∧ (sh a).1 = 0 ∧ (sh b).1 = 0 ∧ ¬ sp < 0 ∧ ¬ dp < 0 ∧ ¬ n < 0 ∧ sp.toNatClampNeg + n.toNatClampNeg ≤ (sh a).2 ∧ dp.toNatClampNeg + n.toNatClampNeg ≤ (sh b).2 ∧ nx ls st (xa m b (va_cpy (m.1 a) (m.1 b) sp.toNatClampNeg dp.toNatClampNeg n.toNatClampNeg)))))))
  | .invokestatic q => q / 64 % 10 ≤ st.length ∧ lt4 (st.drop (q / 64 % 10)) ∧ T (q / 640) ((st.take (q / 64 % 10)).reverse) m (fun r m' => nx ls (r.toList ++ st.drop (q / 64 % 10)) m')
  | .invokevirtual q => q / 64 % 10 ≤ st.length ∧ lt4 (st.drop (q / 64 % 10)) ∧ p_r ((st.take (q / 64 % 10)).reverse) (fun k _ => (sh k).1 = q % 64) ∧ T (q / 640) ((st.take (q / 64 % 10)).reverse) m (fun r m' => nx ls (r.toList ++ st.drop (q / 64 % 10)) m')
  | .ireturn => match st with
    | [.int v] => nrw rt0 v ∧ Q (some (.int v)) m
    | _ => False
  | .lreturn => match st with
    | [.long v] => Q (some (.long v)) m
    | _ => False
  | .areturn => match st with
    | [.ref v] => Q (some (.ref v)) m
    | _ => False
  | .return_ => match st with
    | [] => Q none m
    | _ => False
  | _ => False
theorem okS : (∀ (v : Value) (l : List Value), okst (v :: l) 0 = True) ∧ (∀ (x : Int32) (v : Value) (l : List Value), okst (.int x :: v :: l) 1 = True) ∧ (∀ (x : Nat) (v : Value) (l : List Value), okst (.ref x :: v :: l) 1 = True) ∧ (∀ (v : Value) (l : List Value), okst (.null :: v :: l) 1 = True) ∧ (∀ (v : Value) (l : List Value) (n : Nat), okst (v :: l) (n + 2) = okst l (n + 1)) := ⟨fun _ _ => rfl, fun _ _ _ => rfl, fun _ _ _ => rfl, fun _ _ => rfl, fun v l n => by cases v <;> rfl⟩
theorem lt4S : (∀ st, lt4 st = (wt st ≤ 8)) ∧ wt [] = 0 ∧ (∀ x l, wt (.int x :: l) = 1 + wt l) ∧ (∀ x l, wt (.ref x :: l) = 1 + wt l) ∧ (∀ x l, wt (.long x :: l) = 2 + wt l) := ⟨fun _ => rfl, rfl, fun _ _ => rfl, fun _ _ => rfl, fun _ _ => rfl⟩
abbrev xI : Type := Nat × Instr
/-- a row of instructions: K: at a cut; to: 0 the next one is done, t + 1: all are passed over till the place t -/
def wp (K : Nat → List Value → List Value → xM → Prop) (cut : Nat → Bool) (Q : xQt) (rt0 : Option FieldType) (T : Nat → List Value → xM → xQt → Prop) : Option Nat → List xI → List Value → List Value → xM → Prop
  | _, [], _, _, _ => False
  | none, i :: is, ls, st, m => if cut i.1 = true then K i.1 ls st m else ex (fun ls st m => wp K cut Q rt0 T none is ls st m) (fun t ls st m => if t.toNat ≤ i.1 then K t.toNat ls st m else wp K cut Q rt0 T (some t.toNat) is ls st m) Q rt0 T i.2 ls st m
  | some t, i :: is, ls, st, m => if i.1 = t then (if cut i.1 = true then K i.1 ls st m else ex (fun ls st m => wp K cut Q rt0 T none is ls st m) (fun t ls st m => if t.toNat ≤ i.1 then K t.toNat ls st m else wp K cut Q rt0 T (some t.toNat) is ls st m) Q rt0 T i.2 ls st m) else wp K cut Q rt0 T (some t) is ls st m
/-! ===== EQUATIONS, by program ===== -/
def wJ (K : Nat → List Value → List Value → xM → Prop) (cut : Nat → Bool) (Q : xQt) (rt0 : Option FieldType) (T : Nat → List Value → xM → xQt → Prop) (pc : Nat) (is : List xI) (t : Int) (ls st : List Value) (m : xM) : Prop := if t.toNat ≤ pc then K t.toNat ls st m else wp K cut Q rt0 T (some t.toNat) is ls st m
def wC (K : Nat → List Value → List Value → xM → Prop) (cut : Nat → Bool) (Q : xQt) (rt0 : Option FieldType) (T : Nat → List Value → xM → xQt → Prop) (is : List xI) (ls st : List Value) : xQt := fun r m => wp K cut Q rt0 T none is ls (r.toList ++ st) m
def wI (K : Nat → List Value → List Value → xM → Prop) (cut : Nat → Bool) (Q : xQt) (rt0 : Option FieldType) (T : Nat → List Value → xM → xQt → Prop) (is : List xI) (v : Option Value) (ls st : List Value) (m : xM) : Prop := oI v (fun x => wp K cut Q rt0 T none is ls (.int x :: st) m)
def wL (K : Nat → List Value → List Value → xM → Prop) (cut : Nat → Bool) (Q : xQt) (rt0 : Option FieldType) (T : Nat → List Value → xM → xQt → Prop) (is : List xI) (v : Option Value) (ls st : List Value) (m : xM) : Prop := oL v (fun x => wp K cut Q rt0 T none is ls (.long x :: st) m)
def wR (K : Nat → List Value → List Value → xM → Prop) (cut : Nat → Bool) (Q : xQt) (rt0 : Option FieldType) (T : Nat → List Value → xM → xQt → Prop) (is : List xI) (v : Option Value) (ls st : List Value) (m : xM) : Prop := oR v (fun x => wp K cut Q rt0 T none is ls (.ref x :: st) m)
def wU (K : Nat → List Value → List Value → xM → Prop) (cut : Nat → Bool) (Q : xQt) (rt0 : Option FieldType) (T : Nat → List Value → xM → xQt → Prop) (is : List xI) (v : Option Value) (n : Int) (i : Nat) (ls st : List Value) (m : xM) : Prop := oI v (fun x => wp K cut Q rt0 T none is (ls.set i (.int (x + Int32.ofInt n))) st m)
def wS (K : Nat → List Value → List Value → xM → Prop) (cut : Nat → Bool) (Q : xQt) (rt0 : Option FieldType) (T : Nat → List Value → xM → xQt → Prop) (pc : Nat) (is : List xI) (x : Int32) (d lo : Int) (ts : List Int) (ls st : List Value) (m : xM) : Prop := swt x (fun t => wJ K cut Q rt0 T pc is t ls st m) d lo ts
theorem wp_iinc : ∀ (K : Nat → List Value → List Value → xM → Prop) (cut : Nat → Bool) (Q : xQt) (rt0 : Option FieldType) (T : Nat → List Value → xM → xQt → Prop) (pc : Nat) (is : List xI) (ls st : List Value) (m : xM) (i1 : Nat) (n : Int), wp K cut Q rt0 T none ((pc, .iinc i1 n) :: is) ls (st) m = if cut pc = true then K pc ls (st) m else (okst ls i1 ∧ wU K cut Q rt0 T is (ls[i1]?) n i1 ls st m) := by
  intro K cut Q rt0 T pc is ls st m i1 n
  show (if cut pc = true then _ else oI ls[i1]? _) = _
  split
  · rfl
  · unfold wU
    unfold oI
    split <;> simp
theorem wpE0 : (∀ (K : Nat → List Value → List Value → xM → Prop) (cut : Nat → Bool) (Q : xQt) (rt0 : Option FieldType) (T : Nat → List Value → xM → xQt → Prop) (pc : Nat) (is : List xI) (ls st : List Value) (m : xM) (n : Int), wp K cut Q rt0 T none ((pc, .iconst n) :: is) ls (st) m = if cut pc = true then K pc ls (st) m else (wp K cut Q rt0 T none is ls (.int (Int32.ofInt n) :: st) m)) ∧
  (∀ (K : Nat → List Value → List Value → xM → Prop) (cut : Nat → Bool) (Q : xQt) (rt0 : Option FieldType) (T : Nat → List Value → xM → xQt → Prop) (pc : Nat) (is : List xI) (ls st : List Value) (m : xM) (n : Int), wp K cut Q rt0 T none ((pc, .goto_w n) :: is) ls (st) m = if cut pc = true then K pc ls (st) m else (wp K cut Q rt0 T none is ls (.long (Int64.ofInt n) :: st) m)) ∧
  (∀ (K : Nat → List Value → List Value → xM → Prop) (cut : Nat → Bool) (Q : xQt) (rt0 : Option FieldType) (T : Nat → List Value → xM → xQt → Prop) (pc : Nat) (is : List xI) (ls st : List Value) (m : xM) (k : Nat), wp K cut Q rt0 T none ((pc, .getstatic k) :: is) ls (st) m = if cut pc = true then K pc ls (st) m else (wp K cut Q rt0 T none is ls (.ref k :: st) m)) ∧
  (∀ (K : Nat → List Value → List Value → xM → Prop) (cut : Nat → Bool) (Q : xQt) (rt0 : Option FieldType) (T : Nat → List Value → xM → xQt → Prop) (pc : Nat) (is : List xI) (ls st : List Value) (m : xM), wp K cut Q rt0 T none ((pc, .aconst_null) :: is) ls (st) m = if cut pc = true then K pc ls (st) m else (wp K cut Q rt0 T none is ls (.null :: st) m)) ∧
  (∀ (K : Nat → List Value → List Value → xM → Prop) (cut : Nat → Bool) (Q : xQt) (rt0 : Option FieldType) (T : Nat → List Value → xM → xQt → Prop) (pc : Nat) (is : List xI) (ls st : List Value) (m : xM) (i1 : Nat), wp K cut Q rt0 T none ((pc, .iload i1) :: is) ls (st) m = if cut pc = true then K pc ls (st) m else (wI K cut Q rt0 T is (ls[i1]?) ls st m)) ∧
  (∀ (K : Nat → List Value → List Value → xM → Prop) (cut : Nat → Bool) (Q : xQt) (rt0 : Option FieldType) (T : Nat → List Value → xM → xQt → Prop) (pc : Nat) (is : List xI) (ls st : List Value) (m : xM) (i1 : Nat), wp K cut Q rt0 T none ((pc, .lload i1) :: is) ls (st) m = if cut pc = true then K pc ls (st) m else (wL K cut Q rt0 T is (ls[i1]?) ls st m)) ∧
  (∀ (K : Nat → List Value → List Value → xM → Prop) (cut : Nat → Bool) (Q : xQt) (rt0 : Option FieldType) (T : Nat → List Value → xM → xQt → Prop) (pc : Nat) (is : List xI) (ls st : List Value) (m : xM) (i1 : Nat), wp K cut Q rt0 T none ((pc, .aload i1) :: is) ls (st) m = if cut pc = true then K pc ls (st) m else (wR K cut Q rt0 T is (ls[i1]?) ls st m)) ∧
  (∀ (K : Nat → List Value → List Value → xM → Prop) (cut : Nat → Bool) (Q : xQt) (rt0 : Option FieldType) (T : Nat → List Value → xM → xQt → Prop) (pc : Nat) (is : List xI) (ls st : List Value) (m : xM) (i1 : Nat) (x : Int32), wp K cut Q rt0 T none ((pc, .istore i1) :: is) ls (.int x :: st) m = if cut pc = true then K pc ls (.int x :: st) m else (okst ls i1 ∧ wp K cut Q rt0 T none is (ls.set i1 (.int x)) st m)) ∧
  (∀ (K : Nat → List Value → List Value → xM → Prop) (cut : Nat → Bool) (Q : xQt) (rt0 : Option FieldType) (T : Nat → List Value → xM → xQt → Prop) (pc : Nat) (is : List xI) (ls st : List Value) (m : xM) (i1 : Nat) (x : Int64), wp K cut Q rt0 T none ((pc, .lstore i1) :: is) ls (.long x :: st) m = if cut pc = true then K pc ls (.long x :: st) m else (okst ls i1 ∧ i1 + 1 < ls.length ∧ wp K cut Q rt0 T none is ((ls.set i1 (.long x)).set (i1 + 1) .null) st m)) ∧
  (∀ (K : Nat → List Value → List Value → xM → Prop) (cut : Nat → Bool) (Q : xQt) (rt0 : Option FieldType) (T : Nat → List Value → xM → xQt → Prop) (pc : Nat) (is : List xI) (ls st : List Value) (m : xM) (i1 : Nat) (x : Nat), wp K cut Q rt0 T none ((pc, .astore i1) :: is) ls (.ref x :: st) m = if cut pc = true then K pc ls (.ref x :: st) m else (okst ls i1 ∧ wp K cut Q rt0 T none is (ls.set i1 (.ref x)) st m)) ∧
  (∀ (K : Nat → List Value → List Value → xM → Prop) (cut : Nat → Bool) (Q : xQt) (rt0 : Option FieldType) (T : Nat → List Value → xM → xQt → Prop) (pc : Nat) (is : List xI) (ls st : List Value) (m : xM) (b : Int32) (a : Int32), wp K cut Q rt0 T none ((pc, .iadd) :: is) ls (.int b :: .int a :: st) m = if cut pc = true then K pc ls (.int b :: .int a :: st) m else (wp K cut Q rt0 T none is ls (.int (a + b) :: st) m)) ∧
  (∀ (K : Nat → List Value → List Value → xM → Prop) (cut : Nat → Bool) (Q : xQt) (rt0 : Option FieldType) (T : Nat → List Value → xM → xQt → Prop) (pc : Nat) (is : List xI) (ls st : List Value) (m : xM) (b : Int32) (a : Int32), wp K cut Q rt0 T none ((pc, .isub) :: is) ls (.int b :: .int a :: st) m = if cut pc = true then K pc ls (.int b :: .int a :: st) m else (wp K cut Q rt0 T none is ls (.int (a - b) :: st) m)) ∧
  (∀ (K : Nat → List Value → List Value → xM → Prop) (cut : Nat → Bool) (Q : xQt) (rt0 : Option FieldType) (T : Nat → List Value → xM → xQt → Prop) (pc : Nat) (is : List xI) (ls st : List Value) (m : xM) (b : Int32) (a : Int32), wp K cut Q rt0 T none ((pc, .imul) :: is) ls (.int b :: .int a :: st) m = if cut pc = true then K pc ls (.int b :: .int a :: st) m else (wp K cut Q rt0 T none is ls (.int (a * b) :: st) m)) ∧
  (∀ (K : Nat → List Value → List Value → xM → Prop) (cut : Nat → Bool) (Q : xQt) (rt0 : Option FieldType) (T : Nat → List Value → xM → xQt → Prop) (pc : Nat) (is : List xI) (ls st : List Value) (m : xM) (b : Int32) (a : Int32), wp K cut Q rt0 T none ((pc, .iand) :: is) ls (.int b :: .int a :: st) m = if cut pc = true then K pc ls (.int b :: .int a :: st) m else (wp K cut Q rt0 T none is ls (.int (a &&& b) :: st) m)) := by
  refine ⟨?_, ?_, ?_, ?_, ?_, ?_, ?_, ?_, ?_, ?_, ?_, ?_, ?_, ?_⟩ <;> intros <;> rfl
theorem wpE1 : (∀ (K : Nat → List Value → List Value → xM → Prop) (cut : Nat → Bool) (Q : xQt) (rt0 : Option FieldType) (T : Nat → List Value → xM → xQt → Prop) (pc : Nat) (is : List xI) (ls st : List Value) (m : xM) (b : Int32) (a : Int32), wp K cut Q rt0 T none ((pc, .ior) :: is) ls (.int b :: .int a :: st) m = if cut pc = true then K pc ls (.int b :: .int a :: st) m else (wp K cut Q rt0 T none is ls (.int (a ||| b) :: st) m)) ∧
  (∀ (K : Nat → List Value → List Value → xM → Prop) (cut : Nat → Bool) (Q : xQt) (rt0 : Option FieldType) (T : Nat → List Value → xM → xQt → Prop) (pc : Nat) (is : List xI) (ls st : List Value) (m : xM) (b : Int32) (a : Int32), wp K cut Q rt0 T none ((pc, .ixor) :: is) ls (.int b :: .int a :: st) m = if cut pc = true then K pc ls (.int b :: .int a :: st) m else (wp K cut Q rt0 T none is ls (.int (a ^^^ b) :: st) m)) ∧
  (∀ (K : Nat → List Value → List Value → xM → Prop) (cut : Nat → Bool) (Q : xQt) (rt0 : Option FieldType) (T : Nat → List Value → xM → xQt → Prop) (pc : Nat) (is : List xI) (ls st : List Value) (m : xM) (b : Int32) (a : Int32), wp K cut Q rt0 T none ((pc, .idiv) :: is) ls (.int b :: .int a :: st) m = if cut pc = true then K pc ls (.int b :: .int a :: st) m else (¬ b = 0 ∧ wp K cut Q rt0 T none is ls (.int (a / b) :: st) m)) ∧
  (∀ (K : Nat → List Value → List Value → xM → Prop) (cut : Nat → Bool) (Q : xQt) (rt0 : Option FieldType) (T : Nat → List Value → xM → xQt → Prop) (pc : Nat) (is : List xI) (ls st : List Value) (m : xM) (b : Int32) (a : Int32), wp K cut Q rt0 T none ((pc, .irem) :: is) ls (.int b :: .int a :: st) m = if cut pc = true then K pc ls (.int b :: .int a :: st) m else (¬ b = 0 ∧ wp K cut Q rt0 T none is ls (.int (a - a / b * b) :: st) m)) ∧
  (∀ (K : Nat → List Value → List Value → xM → Prop) (cut : Nat → Bool) (Q : xQt) (rt0 : Option FieldType) (T : Nat → List Value → xM → xQt → Prop) (pc : Nat) (is : List xI) (ls st : List Value) (m : xM) (b : Int32) (a : Int32), wp K cut Q rt0 T none ((pc, .ishl) :: is) ls (.int b :: .int a :: st) m = if cut pc = true then K pc ls (.int b :: .int a :: st) m else (wp K cut Q rt0 T none is ls (.int (a <<< (b &&& 31)) :: st) m)) ∧
  (∀ (K : Nat → List Value → List Value → xM → Prop) (cut : Nat → Bool) (Q : xQt) (rt0 : Option FieldType) (T : Nat → List Value → xM → xQt → Prop) (pc : Nat) (is : List xI) (ls st : List Value) (m : xM) (b : Int32) (a : Int32), wp K cut Q rt0 T none ((pc, .ishr) :: is) ls (.int b :: .int a :: st) m = if cut pc = true then K pc ls (.int b :: .int a :: st) m else (wp K cut Q rt0 T none is ls (.int (a >>> (b &&& 31)) :: st) m)) ∧
  (∀ (K : Nat → List Value → List Value → xM → Prop) (cut : Nat → Bool) (Q : xQt) (rt0 : Option FieldType) (T : Nat → List Value → xM → xQt → Prop) (pc : Nat) (is : List xI) (ls st : List Value) (m : xM) (a : Int32), wp K cut Q rt0 T none ((pc, .ineg) :: is) ls (.int a :: st) m = if cut pc = true then K pc ls (.int a :: st) m else (wp K cut Q rt0 T none is ls (.int (-a) :: st) m)) ∧
  (∀ (K : Nat → List Value → List Value → xM → Prop) (cut : Nat → Bool) (Q : xQt) (rt0 : Option FieldType) (T : Nat → List Value → xM → xQt → Prop) (pc : Nat) (is : List xI) (ls st : List Value) (m : xM) (b : Int64) (a : Int64), wp K cut Q rt0 T none ((pc, .ladd) :: is) ls (.long b :: .long a :: st) m = if cut pc = true then K pc ls (.long b :: .long a :: st) m else (wp K cut Q rt0 T none is ls (.long (a + b) :: st) m)) ∧
  (∀ (K : Nat → List Value → List Value → xM → Prop) (cut : Nat → Bool) (Q : xQt) (rt0 : Option FieldType) (T : Nat → List Value → xM → xQt → Prop) (pc : Nat) (is : List xI) (ls st : List Value) (m : xM) (b : Int64) (a : Int64), wp K cut Q rt0 T none ((pc, .lsub) :: is) ls (.long b :: .long a :: st) m = if cut pc = true then K pc ls (.long b :: .long a :: st) m else (wp K cut Q rt0 T none is ls (.long (a - b) :: st) m)) ∧
  (∀ (K : Nat → List Value → List Value → xM → Prop) (cut : Nat → Bool) (Q : xQt) (rt0 : Option FieldType) (T : Nat → List Value → xM → xQt → Prop) (pc : Nat) (is : List xI) (ls st : List Value) (m : xM) (b : Int64) (a : Int64), wp K cut Q rt0 T none ((pc, .lmul) :: is) ls (.long b :: .long a :: st) m = if cut pc = true then K pc ls (.long b :: .long a :: st) m else (wp K cut Q rt0 T none is ls (.long (a * b) :: st) m)) ∧
  (∀ (K : Nat → List Value → List Value → xM → Prop) (cut : Nat → Bool) (Q : xQt) (rt0 : Option FieldType) (T : Nat → List Value → xM → xQt → Prop) (pc : Nat) (is : List xI) (ls st : List Value) (m : xM) (b : Int64) (a : Int64), wp K cut Q rt0 T none ((pc, .land) :: is) ls (.long b :: .long a :: st) m = if cut pc = true then K pc ls (.long b :: .long a :: st) m else (wp K cut Q rt0 T none is ls (.long (a &&& b) :: st) m)) ∧
  (∀ (K : Nat → List Value → List Value → xM → Prop) (cut : Nat → Bool) (Q : xQt) (rt0 : Option FieldType) (T : Nat → List Value → xM → xQt → Prop) (pc : Nat) (is : List xI) (ls st : List Value) (m : xM) (b : Int64) (a : Int64), wp K cut Q rt0 T none ((pc, .lor) :: is) ls (.long b :: .long a :: st) m = if cut pc = true then K pc ls (.long b :: .long a :: st) m else (wp K cut Q rt0 T none is ls (.long (a ||| b) :: st) m)) ∧
  (∀ (K : Nat → List Value → List Value → xM → Prop) (cut : Nat → Bool) (Q : xQt) (rt0 : Option FieldType) (T : Nat → List Value → xM → xQt → Prop) (pc : Nat) (is : List xI) (ls st : List Value) (m : xM) (b : Int64) (a : Int64), wp K cut Q rt0 T none ((pc, .ldiv) :: is) ls (.long b :: .long a :: st) m = if cut pc = true then K pc ls (.long b :: .long a :: st) m else (¬ b = 0 ∧ wp K cut Q rt0 T none is ls (.long (a / b) :: st) m)) ∧
  (∀ (K : Nat → List Value → List Value → xM → Prop) (cut : Nat → Bool) (Q : xQt) (rt0 : Option FieldType) (T : Nat → List Value → xM → xQt → Prop) (pc : Nat) (is : List xI) (ls st : List Value) (m : xM) (b : Int64) (a : Int64), wp K cut Q rt0 T none ((pc, .lrem) :: is) ls (.long b :: .long a :: st) m = if cut pc = true then K pc ls (.long b :: .long a :: st) m else (¬ b = 0 ∧ wp K cut Q rt0 T none is ls (.long (a - a / b * b) :: st) m)) := by
  refine ⟨?_, ?_, ?_, ?_, ?_, ?_, ?_, ?_, ?_, ?_, ?_, ?_, ?_, ?_⟩ <;> intros <;> rfl
theorem wpE2 : (∀ (K : Nat → List Value → List Value → xM → Prop) (cut : Nat → Bool) (Q : xQt) (rt0 : Option FieldType) (T : Nat → List Value → xM → xQt → Prop) (pc : Nat) (is : List xI) (ls st : List Value) (m : xM) (a : Int64), wp K cut Q rt0 T none ((pc, .lneg) :: is) ls (.long a :: st) m = if cut pc = true then K pc ls (.long a :: st) m else (wp K cut Q rt0 T none is ls (.long (-a) :: st) m)) ∧
  (∀ (K : Nat → List Value → List Value → xM → Prop) (cut : Nat → Bool) (Q : xQt) (rt0 : Option FieldType) (T : Nat → List Value → xM → xQt → Prop) (pc : Nat) (is : List xI) (ls st : List Value) (m : xM) (b : Int32) (a : Int64), wp K cut Q rt0 T none ((pc, .lshl) :: is) ls (.int b :: .long a :: st) m = if cut pc = true then K pc ls (.int b :: .long a :: st) m else (wp K cut Q rt0 T none is ls (.long (a <<< (b.toInt64 &&& 63)) :: st) m)) ∧
  (∀ (K : Nat → List Value → List Value → xM → Prop) (cut : Nat → Bool) (Q : xQt) (rt0 : Option FieldType) (T : Nat → List Value → xM → xQt → Prop) (pc : Nat) (is : List xI) (ls st : List Value) (m : xM) (b : Int32) (a : Int64), wp K cut Q rt0 T none ((pc, .lshr) :: is) ls (.int b :: .long a :: st) m = if cut pc = true then K pc ls (.int b :: .long a :: st) m else (wp K cut Q rt0 T none is ls (.long (a >>> (b.toInt64 &&& 63)) :: st) m)) ∧
  (∀ (K : Nat → List Value → List Value → xM → Prop) (cut : Nat → Bool) (Q : xQt) (rt0 : Option FieldType) (T : Nat → List Value → xM → xQt → Prop) (pc : Nat) (is : List xI) (ls st : List Value) (m : xM) (b : Int64) (a : Int64), wp K cut Q rt0 T none ((pc, .lcmp) :: is) ls (.long b :: .long a :: st) m = if cut pc = true then K pc ls (.long b :: .long a :: st) m else (wp K cut Q rt0 T none is ls (.int (lg_cmp a b) :: st) m)) ∧
  (∀ (K : Nat → List Value → List Value → xM → Prop) (cut : Nat → Bool) (Q : xQt) (rt0 : Option FieldType) (T : Nat → List Value → xM → xQt → Prop) (pc : Nat) (is : List xI) (ls st : List Value) (m : xM) (a : Int32), wp K cut Q rt0 T none ((pc, .i2l) :: is) ls (.int a :: st) m = if cut pc = true then K pc ls (.int a :: st) m else (wp K cut Q rt0 T none is ls (.long a.toInt64 :: st) m)) ∧
  (∀ (K : Nat → List Value → List Value → xM → Prop) (cut : Nat → Bool) (Q : xQt) (rt0 : Option FieldType) (T : Nat → List Value → xM → xQt → Prop) (pc : Nat) (is : List xI) (ls st : List Value) (m : xM) (a : Int64), wp K cut Q rt0 T none ((pc, .l2i) :: is) ls (.long a :: st) m = if cut pc = true then K pc ls (.long a :: st) m else (wp K cut Q rt0 T none is ls (.int a.toInt32 :: st) m)) ∧
  (∀ (K : Nat → List Value → List Value → xM → Prop) (cut : Nat → Bool) (Q : xQt) (rt0 : Option FieldType) (T : Nat → List Value → xM → xQt → Prop) (pc : Nat) (is : List xI) (ls st : List Value) (m : xM) (a : Int32), wp K cut Q rt0 T none ((pc, .i2b) :: is) ls (.int a :: st) m = if cut pc = true then K pc ls (.int a :: st) m else (wp K cut Q rt0 T none is ls (.int a.toInt8.toInt32 :: st) m)) ∧
  (∀ (K : Nat → List Value → List Value → xM → Prop) (cut : Nat → Bool) (Q : xQt) (rt0 : Option FieldType) (T : Nat → List Value → xM → xQt → Prop) (pc : Nat) (is : List xI) (ls st : List Value) (m : xM) (a : Int32), wp K cut Q rt0 T none ((pc, .i2s) :: is) ls (.int a :: st) m = if cut pc = true then K pc ls (.int a :: st) m else (wp K cut Q rt0 T none is ls (.int a.toInt16.toInt32 :: st) m)) ∧
  (∀ (K : Nat → List Value → List Value → xM → Prop) (cut : Nat → Bool) (Q : xQt) (rt0 : Option FieldType) (T : Nat → List Value → xM → xQt → Prop) (pc : Nat) (is : List xI) (ls st : List Value) (m : xM) (a : Int32), wp K cut Q rt0 T none ((pc, .i2c) :: is) ls (.int a :: st) m = if cut pc = true then K pc ls (.int a :: st) m else (wp K cut Q rt0 T none is ls (.int (a.toUInt32 % 65536).toInt32 :: st) m)) ∧
  (∀ (K : Nat → List Value → List Value → xM → Prop) (cut : Nat → Bool) (Q : xQt) (rt0 : Option FieldType) (T : Nat → List Value → xM → xQt → Prop) (pc : Nat) (is : List xI) (ls st : List Value) (m : xM) (u8 : Int32), wp K cut Q rt0 T none ((pc, .pop) :: is) ls (.int u8 :: st) m = if cut pc = true then K pc ls (.int u8 :: st) m else (wp K cut Q rt0 T none is ls st m)) ∧
  (∀ (K : Nat → List Value → List Value → xM → Prop) (cut : Nat → Bool) (Q : xQt) (rt0 : Option FieldType) (T : Nat → List Value → xM → xQt → Prop) (pc : Nat) (is : List xI) (ls st : List Value) (m : xM) (b : Int32) (a : Nat), wp K cut Q rt0 T none ((pc, .dup2) :: is) ls (.int b :: .ref a :: st) m = if cut pc = true then K pc ls (.int b :: .ref a :: st) m else (wp K cut Q rt0 T none is ls (.int b :: .ref a :: .int b :: .ref a :: st) m)) ∧
  (∀ (K : Nat → List Value → List Value → xM → Prop) (cut : Nat → Bool) (Q : xQt) (rt0 : Option FieldType) (T : Nat → List Value → xM → xQt → Prop) (pc : Nat) (is : List xI) (ls st : List Value) (m : xM) (t : Int), wp K cut Q rt0 T none ((pc, .goto t) :: is) ls (st) m = if cut pc = true then K pc ls (st) m else (wJ K cut Q rt0 T pc is t ls st m)) ∧
  (∀ (K : Nat → List Value → List Value → xM → Prop) (cut : Nat → Bool) (Q : xQt) (rt0 : Option FieldType) (T : Nat → List Value → xM → xQt → Prop) (pc : Nat) (is : List xI) (ls st : List Value) (m : xM) (t : Int) (x : Int32), wp K cut Q rt0 T none ((pc, .ifCond .eq t) :: is) ls (.int x :: st) m = if cut pc = true then K pc ls (.int x :: st) m else ((x = 0 → wJ K cut Q rt0 T pc is t ls st m) ∧ (¬ x = 0 → wp K cut Q rt0 T none is ls st m))) ∧
  (∀ (K : Nat → List Value → List Value → xM → Prop) (cut : Nat → Bool) (Q : xQt) (rt0 : Option FieldType) (T : Nat → List Value → xM → xQt → Prop) (pc : Nat) (is : List xI) (ls st : List Value) (m : xM) (t : Int) (x : Int32), wp K cut Q rt0 T none ((pc, .ifCond .ne t) :: is) ls (.int x :: st) m = if cut pc = true then K pc ls (.int x :: st) m else ((x = 0 → wp K cut Q rt0 T none is ls st m) ∧ (¬ x = 0 → wJ K cut Q rt0 T pc is t ls st m))) := by
  refine ⟨?_, ?_, ?_, ?_, ?_, ?_, ?_, ?_, ?_, ?_, ?_, ?_, ?_, ?_⟩ <;> intros <;> rfl
theorem wpE3 : (∀ (K : Nat → List Value → List Value → xM → Prop) (cut : Nat → Bool) (Q : xQt) (rt0 : Option FieldType) (T : Nat → List Value → xM → xQt → Prop) (pc : Nat) (is : List xI) (ls st : List Value) (m : xM) (t : Int) (x : Int32), wp K cut Q rt0 T none ((pc, .ifCond .lt t) :: is) ls (.int x :: st) m = if cut pc = true then K pc ls (.int x :: st) m else ((x < 0 → wJ K cut Q rt0 T pc is t ls st m) ∧ (¬ x < 0 → wp K cut Q rt0 T none is ls st m))) ∧
  (∀ (K : Nat → List Value → List Value → xM → Prop) (cut : Nat → Bool) (Q : xQt) (rt0 : Option FieldType) (T : Nat → List Value → xM → xQt → Prop) (pc : Nat) (is : List xI) (ls st : List Value) (m : xM) (t : Int) (x : Int32), wp K cut Q rt0 T none ((pc, .ifCond .ge t) :: is) ls (.int x :: st) m = if cut pc = true then K pc ls (.int x :: st) m else ((0 ≤ x → wJ K cut Q rt0 T pc is t ls st m) ∧ (¬ 0 ≤ x → wp K cut Q rt0 T none is ls st m))) ∧
  (∀ (K : Nat → List Value → List Value → xM → Prop) (cut : Nat → Bool) (Q : xQt) (rt0 : Option FieldType) (T : Nat → List Value → xM → xQt → Prop) (pc : Nat) (is : List xI) (ls st : List Value) (m : xM) (t : Int) (x : Int32), wp K cut Q rt0 T none ((pc, .ifCond .gt t) :: is) ls (.int x :: st) m = if cut pc = true then K pc ls (.int x :: st) m else ((0 < x → wJ K cut Q rt0 T pc is t ls st m) ∧ (¬ 0 < x → wp K cut Q rt0 T none is ls st m))) ∧
  (∀ (K : Nat → List Value → List Value → xM → Prop) (cut : Nat → Bool) (Q : xQt) (rt0 : Option FieldType) (T : Nat → List Value → xM → xQt → Prop) (pc : Nat) (is : List xI) (ls st : List Value) (m : xM) (t : Int) (x : Int32), wp K cut Q rt0 T none ((pc, .ifCond .le t) :: is) ls (.int x :: st) m = if cut pc = true then K pc ls (.int x :: st) m else ((x ≤ 0 → wJ K cut Q rt0 T pc is t ls st m) ∧ (¬ x ≤ 0 → wp K cut Q rt0 T none is ls st m))) ∧
  (∀ (K : Nat → List Value → List Value → xM → Prop) (cut : Nat → Bool) (Q : xQt) (rt0 : Option FieldType) (T : Nat → List Value → xM → xQt → Prop) (pc : Nat) (is : List xI) (ls st : List Value) (m : xM) (t : Int) (y : Int32) (x : Int32), wp K cut Q rt0 T none ((pc, .if_icmp .eq t) :: is) ls (.int y :: .int x :: st) m = if cut pc = true then K pc ls (.int y :: .int x :: st) m else ((x = y → wJ K cut Q rt0 T pc is t ls st m) ∧ (¬ x = y → wp K cut Q rt0 T none is ls st m))) ∧
  (∀ (K : Nat → List Value → List Value → xM → Prop) (cut : Nat → Bool) (Q : xQt) (rt0 : Option FieldType) (T : Nat → List Value → xM → xQt → Prop) (pc : Nat) (is : List xI) (ls st : List Value) (m : xM) (t : Int) (y : Int32) (x : Int32), wp K cut Q rt0 T none ((pc, .if_icmp .ne t) :: is) ls (.int y :: .int x :: st) m = if cut pc = true then K pc ls (.int y :: .int x :: st) m else ((x = y → wp K cut Q rt0 T none is ls st m) ∧ (¬ x = y → wJ K cut Q rt0 T pc is t ls st m))) ∧
  (∀ (K : Nat → List Value → List Value → xM → Prop) (cut : Nat → Bool) (Q : xQt) (rt0 : Option FieldType) (T : Nat → List Value → xM → xQt → Prop) (pc : Nat) (is : List xI) (ls st : List Value) (m : xM) (t : Int) (y : Int32) (x : Int32), wp K cut Q rt0 T none ((pc, .if_icmp .lt t) :: is) ls (.int y :: .int x :: st) m = if cut pc = true then K pc ls (.int y :: .int x :: st) m else ((x < y → wJ K cut Q rt0 T pc is t ls st m) ∧ (¬ x < y → wp K cut Q rt0 T none is ls st m))) ∧
  (∀ (K : Nat → List Value → List Value → xM → Prop) (cut : Nat → Bool) (Q : xQt) (rt0 : Option FieldType) (T : Nat → List Value → xM → xQt → Prop) (pc : Nat) (is : List xI) (ls st : List Value) (m : xM) (t : Int) (y : Int32) (x : Int32), wp K cut Q rt0 T none ((pc, .if_icmp .ge t) :: is) ls (.int y :: .int x :: st) m = if cut pc = true then K pc ls (.int y :: .int x :: st) m else ((y ≤ x → wJ K cut Q rt0 T pc is t ls st m) ∧ (¬ y ≤ x → wp K cut Q rt0 T none is ls st m))) ∧
  (∀ (K : Nat → List Value → List Value → xM → Prop) (cut : Nat → Bool) (Q : xQt) (rt0 : Option FieldType) (T : Nat → List Value → xM → xQt → Prop) (pc : Nat) (is : List xI) (ls st : List Value) (m : xM) (t : Int) (y : Int32) (x : Int32), wp K cut Q rt0 T none ((pc, .if_icmp .gt t) :: is) ls (.int y :: .int x :: st) m = if cut pc = true then K pc ls (.int y :: .int x :: st) m else ((y < x → wJ K cut Q rt0 T pc is t ls st m) ∧ (¬ y < x → wp K cut Q rt0 T none is ls st m))) ∧
  (∀ (K : Nat → List Value → List Value → xM → Prop) (cut : Nat → Bool) (Q : xQt) (rt0 : Option FieldType) (T : Nat → List Value → xM → xQt → Prop) (pc : Nat) (is : List xI) (ls st : List Value) (m : xM) (t : Int) (y : Int32) (x : Int32), wp K cut Q rt0 T none ((pc, .if_icmp .le t) :: is) ls (.int y :: .int x :: st) m = if cut pc = true then K pc ls (.int y :: .int x :: st) m else ((x ≤ y → wJ K cut Q rt0 T pc is t ls st m) ∧ (¬ x ≤ y → wp K cut Q rt0 T none is ls st m))) ∧
  (∀ (K : Nat → List Value → List Value → xM → Prop) (cut : Nat → Bool) (Q : xQt) (rt0 : Option FieldType) (T : Nat → List Value → xM → xQt → Prop) (pc : Nat) (is : List xI) (ls st : List Value) (m : xM) (d : Int) (lo : Int) (u9 : Int) (ts : Array Int) (x : Int32), wp K cut Q rt0 T none ((pc, .tableswitch d lo u9 ts) :: is) ls (.int x :: st) m = if cut pc = true then K pc ls (.int x :: st) m else (wS K cut Q rt0 T pc is x d lo ts.toList ls st m)) ∧
  (∀ (K : Nat → List Value → List Value → xM → Prop) (cut : Nat → Bool) (Q : xQt) (rt0 : Option FieldType) (T : Nat → List Value → xM → xQt → Prop) (pc : Nat) (is : List xI) (ls st : List Value) (m : xM) (f : Nat) (k : Nat), wp K cut Q rt0 T none ((pc, .getfield f) :: is) ls (.ref k :: st) m = if cut pc = true then K pc ls (.ref k :: st) m else ((sh k).1 = f / 32 + 3 ∧ wp K cut Q rt0 T none is ls (.int (m.1 k (f % 32)) :: st) m)) ∧
  (∀ (K : Nat → List Value → List Value → xM → Prop) (cut : Nat → Bool) (Q : xQt) (rt0 : Option FieldType) (T : Nat → List Value → xM → xQt → Prop) (pc : Nat) (is : List xI) (ls st : List Value) (m : xM) (f : Nat) (k : Nat), wp K cut Q rt0 T none ((pc, .instanceof f) :: is) ls (.ref k :: st) m = if cut pc = true then K pc ls (.ref k :: st) m else ((sh k).1 = f / 32 + 3 ∧ wp K cut Q rt0 T none is ls (.long (m.2 k (f % 32)) :: st) m)) ∧
  (∀ (K : Nat → List Value → List Value → xM → Prop) (cut : Nat → Bool) (Q : xQt) (rt0 : Option FieldType) (T : Nat → List Value → xM → xQt → Prop) (pc : Nat) (is : List xI) (ls st : List Value) (m : xM) (f : Nat) (k : Nat), wp K cut Q rt0 T none ((pc, .checkcast f) :: is) ls (.ref k :: st) m = if cut pc = true then K pc ls (.ref k :: st) m else ((sh k).1 = f / 32 + 3 ∧ wp K cut Q rt0 T none is ls (.ref (rt k (f % 32)) :: st) m)) := by
  refine ⟨?_, ?_, ?_, ?_, ?_, ?_, ?_, ?_, ?_, ?_, ?_, ?_, ?_, ?_⟩ <;> intros <;> rfl
theorem wpE4 : (∀ (K : Nat → List Value → List Value → xM → Prop) (cut : Nat → Bool) (Q : xQt) (rt0 : Option FieldType) (T : Nat → List Value → xM → xQt → Prop) (pc : Nat) (is : List xI) (ls st : List Value) (m : xM) (f : Nat) (v : Int32) (k : Nat), wp K cut Q rt0 T none ((pc, .putfield f) :: is) ls (.int v :: .ref k :: st) m = if cut pc = true then K pc ls (.int v :: .ref k :: st) m else ((sh k).1 = f / 32 + 3 ∧ wp K cut Q rt0 T none is ls st (xa m k (upd (m.1 k) (f % 32) v)))) ∧
  (∀ (K : Nat → List Value → List Value → xM → Prop) (cut : Nat → Bool) (Q : xQt) (rt0 : Option FieldType) (T : Nat → List Value → xM → xQt → Prop) (pc : Nat) (is : List xI) (ls st : List Value) (m : xM) (f : Nat) (v : Int32) (k : Nat), wp K cut Q rt0 T none ((pc, .putstatic f) :: is) ls (.int v :: .ref k :: st) m = if cut pc = true then K pc ls (.int v :: .ref k :: st) m else ((sh k).1 = f / 32 + 3 ∧ (v = 0 ∨ v = 1) ∧ wp K cut Q rt0 T none is ls st (xa m k (upd (m.1 k) (f % 32) v)))) ∧
  (∀ (K : Nat → List Value → List Value → xM → Prop) (cut : Nat → Bool) (Q : xQt) (rt0 : Option FieldType) (T : Nat → List Value → xM → xQt → Prop) (pc : Nat) (is : List xI) (ls st : List Value) (m : xM) (f : Nat) (v : Int64) (k : Nat), wp K cut Q rt0 T none ((pc, .anewarray f) :: is) ls (.long v :: .ref k :: st) m = if cut pc = true then K pc ls (.long v :: .ref k :: st) m else ((sh k).1 = f / 32 + 3 ∧ wp K cut Q rt0 T none is ls st (xb m k (vp_updL (m.2 k) (f % 32) v)))) ∧
  (∀ (K : Nat → List Value → List Value → xM → Prop) (cut : Nat → Bool) (Q : xQt) (rt0 : Option FieldType) (T : Nat → List Value → xM → xQt → Prop) (pc : Nat) (is : List xI) (ls st : List Value) (m : xM) (u9 : Nat) (k : Nat), wp K cut Q rt0 T none ((pc, .ldc_w u9) :: is) ls (.ref k :: st) m = if cut pc = true then K pc ls (.ref k :: st) m else ((sh k).1 = 50 ∧ wp K cut Q rt0 T none is ls (.ref (k + 10) :: st) m)) ∧
  (∀ (K : Nat → List Value → List Value → xM → Prop) (cut : Nat → Bool) (Q : xQt) (rt0 : Option FieldType) (T : Nat → List Value → xM → xQt → Prop) (pc : Nat) (is : List xI) (ls st : List Value) (m : xM) (u9 : Nat) (k : Nat), wp K cut Q rt0 T none ((pc, .ldc u9) :: is) ls (.ref k :: st) m = if cut pc = true then K pc ls (.ref k :: st) m else ((sh k).1 = 50 ∧ wp K cut Q rt0 T none is ls (.int 0 :: st) m)) ∧
  (∀ (K : Nat → List Value → List Value → xM → Prop) (cut : Nat → Bool) (Q : xQt) (rt0 : Option FieldType) (T : Nat → List Value → xM → xQt → Prop) (pc : Nat) (is : List xI) (ls st : List Value) (m : xM) (i : Int32) (k : Nat), wp K cut Q rt0 T none ((pc, .iaload) :: is) ls (.int i :: .ref k :: st) m = if cut pc = true then K pc ls (.int i :: .ref k :: st) m else ((sh k).1 = 0 ∧ vp_in i (sh k).2 ∧ wp K cut Q rt0 T none is ls (.int (m.1 k i.toNatClampNeg) :: st) m)) ∧
  (∀ (K : Nat → List Value → List Value → xM → Prop) (cut : Nat → Bool) (Q : xQt) (rt0 : Option FieldType) (T : Nat → List Value → xM → xQt → Prop) (pc : Nat) (is : List xI) (ls st : List Value) (m : xM) (i : Int32) (k : Nat), wp K cut Q rt0 T none ((pc, .baload) :: is) ls (.int i :: .ref k :: st) m = if cut pc = true then K pc ls (.int i :: .ref k :: st) m else ((sh k).1 = 1 ∧ vp_in i (sh k).2 ∧ wp K cut Q rt0 T none is ls (.int (m.1 k i.toNatClampNeg) :: st) m)) ∧
  (∀ (K : Nat → List Value → List Value → xM → Prop) (cut : Nat → Bool) (Q : xQt) (rt0 : Option FieldType) (T : Nat → List Value → xM → xQt → Prop) (pc : Nat) (is : List xI) (ls st : List Value) (m : xM) (i : Int32) (k : Nat), wp K cut Q rt0 T none ((pc, .daload) :: is) ls (.int i :: .ref k :: st) m = if cut pc = true then K pc ls (.int i :: .ref k :: st) m else ((sh k).1 = 2 ∧ vp_in i (sh k).2 ∧ wp K cut Q rt0 T none is ls (.int (m.1 k i.toNatClampNeg) :: st) m)) ∧
  (∀ (K : Nat → List Value → List Value → xM → Prop) (cut : Nat → Bool) (Q : xQt) (rt0 : Option FieldType) (T : Nat → List Value → xM → xQt → Prop) (pc : Nat) (is : List xI) (ls st : List Value) (m : xM) (i : Int32) (k : Nat), wp K cut Q rt0 T none ((pc, .aaload) :: is) ls (.int i :: .ref k :: st) m = if cut pc = true then K pc ls (.int i :: .ref k :: st) m else ((sh k).1 = 52 ∧ vp_in i (sh k).2 ∧ wp K cut Q rt0 T none is ls (.int (xc k i.toNatClampNeg) :: st) m)) ∧
  (∀ (K : Nat → List Value → List Value → xM → Prop) (cut : Nat → Bool) (Q : xQt) (rt0 : Option FieldType) (T : Nat → List Value → xM → xQt → Prop) (pc : Nat) (is : List xI) (ls st : List Value) (m : xM) (i : Int32) (k : Nat), wp K cut Q rt0 T none ((pc, .caload) :: is) ls (.int i :: .ref k :: st) m = if cut pc = true then K pc ls (.int i :: .ref k :: st) m else ((sh k).1 = 51 ∧ vp_in i (sh k).2 ∧ wp K cut Q rt0 T none is ls (.int (xc k i.toNatClampNeg) :: st) m)) ∧
  (∀ (K : Nat → List Value → List Value → xM → Prop) (cut : Nat → Bool) (Q : xQt) (rt0 : Option FieldType) (T : Nat → List Value → xM → xQt → Prop) (pc : Nat) (is : List xI) (ls st : List Value) (m : xM) (v : Int32) (i : Int32) (k : Nat), wp K cut Q rt0 T none ((pc, .iastore) :: is) ls (.int v :: .int i :: .ref k :: st) m = if cut pc = true then K pc ls (.int v :: .int i :: .ref k :: st) m else ((sh k).1 = 0 ∧ vp_in i (sh k).2 ∧ wp K cut Q rt0 T none is ls st (xa m k (upd (m.1 k) i.toNatClampNeg v)))) ∧
  (∀ (K : Nat → List Value → List Value → xM → Prop) (cut : Nat → Bool) (Q : xQt) (rt0 : Option FieldType) (T : Nat → List Value → xM → xQt → Prop) (pc : Nat) (is : List xI) (ls st : List Value) (m : xM) (v : Int32) (i : Int32) (k : Nat), wp K cut Q rt0 T none ((pc, .bastore) :: is) ls (.int v :: .int i :: .ref k :: st) m = if cut pc = true then K pc ls (.int v :: .int i :: .ref k :: st) m else ((sh k).1 = 1 ∧ vp_in i (sh k).2 ∧ wp K cut Q rt0 T none is ls st (xa m k (upd (m.1 k) i.toNatClampNeg v.toInt8.toInt32)))) ∧
  (∀ (K : Nat → List Value → List Value → xM → Prop) (cut : Nat → Bool) (Q : xQt) (rt0 : Option FieldType) (T : Nat → List Value → xM → xQt → Prop) (pc : Nat) (is : List xI) (ls st : List Value) (m : xM) (v : Int32) (i : Int32) (k : Nat), wp K cut Q rt0 T none ((pc, .dastore) :: is) ls (.int v :: .int i :: .ref k :: st) m = if cut pc = true then K pc ls (.int v :: .int i :: .ref k :: st) m else ((sh k).1 = 2 ∧ vp_in i (sh k).2 ∧ (v = 0 ∨ v = 1) ∧ wp K cut Q rt0 T none is ls st (xa m k (upd (m.1 k) i.toNatClampNeg v)))) ∧
  (∀ (K : Nat → List Value → List Value → xM → Prop) (cut : Nat → Bool) (Q : xQt) (rt0 : Option FieldType) (T : Nat → List Value → xM → xQt → Prop) (pc : Nat) (is : List xI) (ls st : List Value) (m : xM) (k : Nat), wp K cut Q rt0 T none ((pc, .arraylength) :: is) ls (.ref k :: st) m = if cut pc = true then K pc ls (.ref k :: st) m else ((sh k).1 = 0 ∧ wp K cut Q rt0 T none is ls (.int (Int32.ofNat (sh k).2) :: st) m)) := by
  refine ⟨?_, ?_, ?_, ?_, ?_, ?_, ?_, ?_, ?_, ?_, ?_, ?_, ?_, ?_⟩ <;> intros <;> rfl
theorem wpE5 : (∀ (K : Nat → List Value → List Value → xM → Prop) (cut : Nat → Bool) (Q : xQt) (rt0 : Option FieldType) (T : Nat → List Value → xM → xQt → Prop) (pc : Nat) (is : List xI) (ls st : List Value) (m : xM) (k : Nat), wp K cut Q rt0 T none ((pc, .castore) :: is) ls (.ref k :: st) m = if cut pc = true then K pc ls (.ref k :: st) m else ((sh k).1 = 51 ∧ wp K cut Q rt0 T none is ls (.int (Int32.ofNat (sh k).2) :: st) m)) ∧
  (∀ (K : Nat → List Value → List Value → xM → Prop) (cut : Nat → Bool) (Q : xQt) (rt0 : Option FieldType) (T : Nat → List Value → xM → xQt → Prop) (pc : Nat) (is : List xI) (ls st : List Value) (m : xM) (b : Int32) (a : Int32), wp K cut Q rt0 T none ((pc, .fadd) :: is) ls (.int b :: .int a :: st) m = if cut pc = true then K pc ls (.int b :: .int a :: st) m else (lt4 st ∧ wp K cut Q rt0 T none is ls (.int (if a < b then b else a) :: st) m)) ∧
  (∀ (K : Nat → List Value → List Value → xM → Prop) (cut : Nat → Bool) (Q : xQt) (rt0 : Option FieldType) (T : Nat → List Value → xM → xQt → Prop) (pc : Nat) (is : List xI) (ls st : List Value) (m : xM) (b : Int32) (a : Int32), wp K cut Q rt0 T none ((pc, .fsub) :: is) ls (.int b :: .int a :: st) m = if cut pc = true then K pc ls (.int b :: .int a :: st) m else (lt4 st ∧ wp K cut Q rt0 T none is ls (.int (if b < a then b else a) :: st) m)) ∧
  (∀ (K : Nat → List Value → List Value → xM → Prop) (cut : Nat → Bool) (Q : xQt) (rt0 : Option FieldType) (T : Nat → List Value → xM → xQt → Prop) (pc : Nat) (is : List xI) (ls st : List Value) (m : xM) (n : Int32) (dp : Int32) (b : Nat) (sp : Int32) (a : Nat), wp K cut Q rt0 T none ((pc, .nop) :: is) ls (.int n :: .int dp :: .ref b :: .int sp :: .ref a :: st) m = if cut pc = true then K pc ls (.int n :: .int dp :: .ref b :: .int sp :: .ref a :: st) m else (lt4 st ∧ (sh a).1 = 0 ∧ (sh b).1 = 0 ∧ ¬ sp < 0 ∧ ¬ dp < 0 ∧ ¬ n < 0 ∧ sp.toNatClampNeg + n.toNatClampNeg ≤ (sh a).2 ∧ dp.toNatClampNeg + n.toNatClampNeg ≤ (sh b).2 ∧ wp K cut Q rt0 T none is ls st (xa m b (va_cpy (m.1 a) (m.1 b) sp.toNatClampNeg dp.toNatClampNeg n.toNatClampNeg)))) ∧
  (∀ (K : Nat → List Value → List Value → xM → Prop) (cut : Nat → Bool) (Q : xQt) (rt0 : Option FieldType) (T : Nat → List Value → xM → xQt → Prop) (pc : Nat) (is : List xI) (ls st : List Value) (m : xM) (q : Nat), wp K cut Q rt0 T none ((pc, .invokestatic q) :: is) ls (st) m = if cut pc = true then K pc ls (st) m else (q / 64 % 10 ≤ st.length ∧ lt4 (st.drop (q / 64 % 10)) ∧ T (q / 640) ((st.take (q / 64 % 10)).reverse) m (wC K cut Q rt0 T is ls (st.drop (q / 64 % 10))))) ∧
  (∀ (K : Nat → List Value → List Value → xM → Prop) (cut : Nat → Bool) (Q : xQt) (rt0 : Option FieldType) (T : Nat → List Value → xM → xQt → Prop) (pc : Nat) (is : List xI) (ls st : List Value) (m : xM) (q : Nat), wp K cut Q rt0 T none ((pc, .invokevirtual q) :: is) ls (st) m = if cut pc = true then K pc ls (st) m else (q / 64 % 10 ≤ st.length ∧ lt4 (st.drop (q / 64 % 10)) ∧ p_r ((st.take (q / 64 % 10)).reverse) (fun k _ => (sh k).1 = q % 64) ∧ T (q / 640) ((st.take (q / 64 % 10)).reverse) m (wC K cut Q rt0 T is ls (st.drop (q / 64 % 10))))) ∧
  (∀ (K : Nat → List Value → List Value → xM → Prop) (cut : Nat → Bool) (Q : xQt) (rt0 : Option FieldType) (T : Nat → List Value → xM → xQt → Prop) (pc : Nat) (is : List xI) (ls : List Value) (m : xM) (x : Int32) (st : List Value), wp K cut Q rt0 T none ((pc, .dup) :: is) ls (.int x :: st) m = if cut pc = true then K pc ls (.int x :: st) m else (wp K cut Q rt0 T none is ls (.int x :: .int x :: st) m)) ∧
  (∀ (K : Nat → List Value → List Value → xM → Prop) (cut : Nat → Bool) (Q : xQt) (rt0 : Option FieldType) (T : Nat → List Value → xM → xQt → Prop) (pc : Nat) (is : List xI) (ls : List Value) (m : xM) (x : Nat) (st : List Value), wp K cut Q rt0 T none ((pc, .dup) :: is) ls (.ref x :: st) m = if cut pc = true then K pc ls (.ref x :: st) m else (wp K cut Q rt0 T none is ls (.ref x :: .ref x :: st) m)) ∧
  (∀ (K : Nat → List Value → List Value → xM → Prop) (cut : Nat → Bool) (Q : xQt) (rt0 : Option FieldType) (T : Nat → List Value → xM → xQt → Prop) (pc : Nat) (is : List xI) (ls : List Value) (m : xM) (v : Int32), wp K cut Q rt0 T none ((pc, .ireturn) :: is) ls ([.int v]) m = if cut pc = true then K pc ls ([.int v]) m else (nrw rt0 v ∧ Q (some (.int v)) m)) ∧
  (∀ (K : Nat → List Value → List Value → xM → Prop) (cut : Nat → Bool) (Q : xQt) (rt0 : Option FieldType) (T : Nat → List Value → xM → xQt → Prop) (pc : Nat) (is : List xI) (ls : List Value) (m : xM) (v : Int64), wp K cut Q rt0 T none ((pc, .lreturn) :: is) ls ([.long v]) m = if cut pc = true then K pc ls ([.long v]) m else (Q (some (.long v)) m)) ∧
  (∀ (K : Nat → List Value → List Value → xM → Prop) (cut : Nat → Bool) (Q : xQt) (rt0 : Option FieldType) (T : Nat → List Value → xM → xQt → Prop) (pc : Nat) (is : List xI) (ls : List Value) (m : xM) (v : Nat), wp K cut Q rt0 T none ((pc, .areturn) :: is) ls ([.ref v]) m = if cut pc = true then K pc ls ([.ref v]) m else (Q (some (.ref v)) m)) ∧
  (∀ (K : Nat → List Value → List Value → xM → Prop) (cut : Nat → Bool) (Q : xQt) (rt0 : Option FieldType) (T : Nat → List Value → xM → xQt → Prop) (pc : Nat) (is : List xI) (ls : List Value) (m : xM), wp K cut Q rt0 T none ((pc, .return_) :: is) ls ([]) m = if cut pc = true then K pc ls ([]) m else (Q none m)) := by
  refine ⟨?_, ?_, ?_, ?_, ?_, ?_, ?_, ?_, ?_, ?_, ?_, ?_⟩ <;> intros <;> rfl
theorem wpJ : (∀ (K : Nat → List Value → List Value → xM → Prop) (cut : Nat → Bool) (Q : xQt) (rt0 : Option FieldType) (T : Nat → List Value → xM → xQt → Prop) (pc : Nat) (is : List xI) (t : Int) (ls st : List Value) (m : xM), wJ K cut Q rt0 T pc is t ls st m = if t.toNat ≤ pc then K t.toNat ls st m else wp K cut Q rt0 T (some t.toNat) is ls st m) ∧
  (∀ (K : Nat → List Value → List Value → xM → Prop) (cut : Nat → Bool) (Q : xQt) (rt0 : Option FieldType) (T : Nat → List Value → xM → xQt → Prop) (t pc : Nat) (i : Instr) (is : List xI) (ls st : List Value) (m : xM), wp K cut Q rt0 T (some t) ((pc, i) :: is) ls st m = if pc = t then wp K cut Q rt0 T none ((pc, i) :: is) ls st m else wp K cut Q rt0 T (some t) is ls st m) ∧
  (∀ (K : Nat → List Value → List Value → xM → Prop) (cut : Nat → Bool) (Q : xQt) (rt0 : Option FieldType) (T : Nat → List Value → xM → xQt → Prop) (is : List xI) (ls st : List Value) (r : Option Value) (m : xM), wC K cut Q rt0 T is ls st r m = wp K cut Q rt0 T none is ls (r.toList ++ st) m) ∧
  (∀ (K : Nat → List Value → List Value → xM → Prop) (cut : Nat → Bool) (Q : xQt) (rt0 : Option FieldType) (T : Nat → List Value → xM → xQt → Prop) (is : List xI) (x : Int32) (ls st : List Value) (m : xM), wI K cut Q rt0 T is (some (.int x)) ls st m = wp K cut Q rt0 T none is ls (.int x :: st) m) ∧
  (∀ (K : Nat → List Value → List Value → xM → Prop) (cut : Nat → Bool) (Q : xQt) (rt0 : Option FieldType) (T : Nat → List Value → xM → xQt → Prop) (is : List xI) (x : Int64) (ls st : List Value) (m : xM), wL K cut Q rt0 T is (some (.long x)) ls st m = wp K cut Q rt0 T none is ls (.long x :: st) m) ∧
  (∀ (K : Nat → List Value → List Value → xM → Prop) (cut : Nat → Bool) (Q : xQt) (rt0 : Option FieldType) (T : Nat → List Value → xM → xQt → Prop) (is : List xI) (x : Nat) (ls st : List Value) (m : xM), wR K cut Q rt0 T is (some (.ref x)) ls st m = wp K cut Q rt0 T none is ls (.ref x :: st) m) ∧
  (∀ (K : Nat → List Value → List Value → xM → Prop) (cut : Nat → Bool) (Q : xQt) (rt0 : Option FieldType) (T : Nat → List Value → xM → xQt → Prop) (is : List xI) (x : Int32) (n : Int) (i : Nat) (ls st : List Value) (m : xM), wU K cut Q rt0 T is (some (.int x)) n i ls st m = wp K cut Q rt0 T none is (ls.set i (.int (x + Int32.ofInt n))) st m) ∧
  (∀ (K : Nat → List Value → List Value → xM → Prop) (cut : Nat → Bool) (Q : xQt) (rt0 : Option FieldType) (T : Nat → List Value → xM → xQt → Prop) (pc : Nat) (is : List xI) (x : Int32) (d lo : Int) (ls st : List Value) (m : xM), wS K cut Q rt0 T pc is x d lo [] ls st m = wJ K cut Q rt0 T pc is d ls st m) ∧
  (∀ (K : Nat → List Value → List Value → xM → Prop) (cut : Nat → Bool) (Q : xQt) (rt0 : Option FieldType) (T : Nat → List Value → xM → xQt → Prop) (pc : Nat) (is : List xI) (x : Int32) (d lo t : Int) (ts : List Int) (ls st : List Value) (m : xM), wS K cut Q rt0 T pc is x d lo (t :: ts) ls st m = ((x = Int32.ofInt lo → wJ K cut Q rt0 T pc is t ls st m) ∧ (¬ x = Int32.ofInt lo → wS K cut Q rt0 T pc is x d (lo + 1) ts ls st m))) := by
  refine ⟨?_, ?_, ?_, ?_, ?_, ?_, ?_, ?_, ?_⟩ <;> intros <;> rfl
end
section
/-- java/util/Arrays.fill([II)V -/
def i2 : List xI := [(0, .iconst 0), (1, .istore 2), (2, .aload 0), (3, .arraylength), (4, .istore 3), (5, .iload 2), (6, .iload 3), (7, .if_icmp .ge 20), (10, .aload 0), (11, .iload 2), (12, .iload 1), (13, .iastore), (14, .iinc 2 1), (17, .goto 5), (20, .return_)]
/-- OverInDinghy.row(III)J -/
def i9 : List xI := [(0, .iload 1), (1, .invokestatic 6464), (4, .ifCond .eq 22), (7, .iload 2), (8, .ifCond .lt 22), (11, .iload 2), (12, .iconst 2), (13, .if_icmp .gt 22), (16, .iload 3), (17, .iconst 40), (19, .if_icmp .le 26), (22, .goto_w (-9000000000000000001)), (25, .lreturn), (26, .iload 3), (27, .ifCond .ge 36), (30, .aload 0), (31, .iconst 4), (32, .invokevirtual 7178), (35, .lreturn), (36, .aload 0), (37, .checkcast 224), (40, .iload 1), (41, .iload 2), (42, .iload 3), (43, .invokevirtual 7944), (46, .aload 0), (47, .iload 3), (48, .i2l), (49, .invokevirtual 8458), (52, .lreturn)]
/-- OverInDinghy$Rows.isRow(I)Z -/
def i10 : List xI := [(0, .iload 0), (1, .ifCond .lt 14), (4, .iload 0), (5, .iconst 8), (7, .if_icmp .ge 14), (10, .iconst 1), (11, .goto 15), (14, .iconst 0), (15, .ireturn)]
/-- OverInDinghy.found(I)J -/
def i11 : List xI := [(0, .aload 0), (1, .iload 1), (2, .putfield 235), (5, .goto_w (-9000000000000000010)), (8, .iload 1), (9, .i2l), (10, .lsub), (11, .lreturn)]
/-- OverInDinghy$Rows.make(III)V -/
def i12 : List xI := [(0, .aload 0), (1, .checkcast 160), (4, .iload 1), (5, .iload 2), (6, .iastore), (7, .aload 0), (8, .checkcast 161), (11, .iload 1), (12, .iload 3), (13, .iastore), (14, .iconst 0), (15, .istore 4), (17, .iload 4), (19, .iload 3), (20, .if_icmp .ge 42), (23, .aload 0), (24, .checkcast 162), (27, .iload 1), (28, .iconst 40), (30, .imul), (31, .iload 4), (33, .iadd), (34, .iconst 0), (35, .iastore), (36, .iinc 4 1), (39, .goto 17), (42, .return_)]
/-- OverInDinghy.fine(J)J -/
def i13 : List xI := [(0, .aload 0), (1, .iconst 0), (2, .putfield 235), (5, .lload 1), (6, .lreturn)]
/-- OverInDinghy.set(III)J -/
def i14 : List xI := [(0, .iload 1), (1, .invokestatic 6464), (4, .ifCond .ne 11), (7, .goto_w (-9000000000000000001)), (10, .lreturn), (11, .aload 0), (12, .checkcast 224), (15, .iload 1), (16, .invokevirtual 9736), (19, .ifCond .eq 28), (22, .aload 0), (23, .iconst 1), (24, .invokevirtual 7178), (27, .lreturn), (28, .iload 2), (29, .ifCond .lt 45), (32, .iload 2), (33, .aload 0), (34, .checkcast 224), (37, .checkcast 161), (40, .iload 1), (41, .iaload), (42, .if_icmp .lt 51), (45, .aload 0), (46, .iconst 2), (47, .invokevirtual 7178), (50, .lreturn), (51, .aload 0), (52, .aload 0), (53, .checkcast 224), (56, .iload 1), (57, .iload 2), (58, .iload 3), (59, .invokevirtual 10504), (62, .i2l), (63, .invokevirtual 8458), (66, .lreturn)]
/-- OverInDinghy$Rows.isMissing(I)Z -/
def i15 : List xI := [(0, .aload 0), (1, .checkcast 161), (4, .iload 1), (5, .iaload), (6, .iconst (-1)), (7, .if_icmp .ne 14), (10, .iconst 1), (11, .goto 15), (14, .iconst 0), (15, .ireturn)]
/-- OverInDinghy$Rows.put(III)I -/
def i16 : List xI := [(0, .iload 3), (1, .istore 4), (3, .aload 0), (4, .checkcast 160), (7, .iload 1), (8, .iaload), (9, .ifCond .ne 19), (12, .iload 3), (13, .i2b), (14, .istore 4), (16, .goto 33), (19, .aload 0), (20, .checkcast 160), (23, .iload 1), (24, .iaload), (25, .iconst 1), (26, .if_icmp .ne 33), (29, .iload 3), (30, .i2s), (31, .istore 4), (33, .aload 0), (34, .checkcast 162), (37, .iload 1), (38, .iconst 40), (40, .imul), (41, .iload 2), (42, .iadd), (43, .iload 4), (45, .iastore), (46, .iload 4), (48, .ireturn)]
/-- OverInDinghy.copy(IIIII)J -/
def i17 : List xI := [(0, .iload 1), (1, .invokestatic 6464), (4, .ifCond .eq 14), (7, .iload 3), (8, .invokestatic 6464), (11, .ifCond .ne 18), (14, .goto_w (-9000000000000000001)), (17, .lreturn), (18, .aload 0), (19, .checkcast 224), (22, .iload 1), (23, .invokevirtual 9736), (26, .ifCond .ne 40), (29, .aload 0), (30, .checkcast 224), (33, .iload 3), (34, .invokevirtual 9736), (37, .ifCond .eq 46), (40, .aload 0), (41, .iconst 1), (42, .invokevirtual 7178), (45, .lreturn), (46, .aload 0), (47, .checkcast 224), (50, .checkcast 160), (53, .iload 1), (54, .iaload), (55, .aload 0), (56, .checkcast 224), (59, .checkcast 160), (62, .iload 3), (63, .iaload), (64, .if_icmp .eq 73), (67, .aload 0), (68, .iconst 5), (69, .invokevirtual 7178), (72, .lreturn), (73, .aload 0), (74, .checkcast 224), (77, .iload 1), (78, .iload 2), (79, .iload 5), (81, .invokevirtual 11784), (84, .ifCond .eq 102), (87, .aload 0), (88, .checkcast 224), (91, .iload 3), (92, .iload 4), (94, .iload 5), (96, .invokevirtual 11784), (99, .ifCond .ne 108), (102, .aload 0), (103, .iconst 2), (104, .invokevirtual 7178), (107, .lreturn), (108, .aload 0), (109, .checkcast 224), (112, .iload 1), (113, .iload 2), (114, .iload 3), (115, .iload 4), (117, .iload 5), (119, .invokevirtual 12552), (122, .aload 0), (123, .iload 5), (125, .i2l), (126, .invokevirtual 8458), (129, .lreturn)]
/-- OverInDinghy$Rows.holds(III)Z -/
def i18 : List xI := [(0, .iload 2), (1, .ifCond .lt 28), (4, .iload 3), (5, .ifCond .lt 28), (8, .iload 2), (9, .i2l), (10, .iload 3), (11, .i2l), (12, .ladd), (13, .aload 0), (14, .checkcast 161), (17, .iload 1), (18, .iaload), (19, .i2l), (20, .lcmp), (21, .ifCond .gt 28), (24, .iconst 1), (25, .goto 29), (28, .iconst 0), (29, .ireturn)]
/-- OverInDinghy$Rows.move(IIIII)V -/
def i19 : List xI := [(0, .aload 0), (1, .checkcast 162), (4, .iload 1), (5, .iconst 40), (7, .imul), (8, .iload 2), (9, .iadd), (10, .aload 0), (11, .checkcast 162), (14, .iload 3), (15, .iconst 40), (17, .imul), (18, .iload 4), (20, .iadd), (21, .iload 5), (23, .nop), (26, .return_)]
/-- OverInDinghy.drop(I)J -/
def i20 : List xI := [(0, .iload 1), (1, .invokestatic 6464), (4, .ifCond .ne 11), (7, .goto_w (-9000000000000000001)), (10, .lreturn), (11, .aload 0), (12, .checkcast 224), (15, .iload 1), (16, .invokevirtual 9736), (19, .ifCond .eq 28), (22, .aload 0), (23, .iconst 1), (24, .invokevirtual 7178), (27, .lreturn), (28, .aload 0), (29, .checkcast 224), (32, .checkcast 161), (35, .iload 1), (36, .iaload), (37, .istore 2), (38, .aload 0), (39, .checkcast 224), (42, .checkcast 161), (45, .iload 1), (46, .iconst (-1)), (47, .iastore), (48, .aload 0), (49, .iload 2), (50, .i2l), (51, .invokevirtual 8458), (54, .lreturn)]
/-- OverInDinghy.feed(JI)J -/
def i21 : List xI := [(0, .iload 3), (1, .iconst 1), (2, .if_icmp .lt 11), (5, .iload 3), (6, .iconst 8), (8, .if_icmp .le 15), (11, .goto_w (-9000000000000000001)), (14, .lreturn), (15, .aload 0), (16, .checkcast 225), (19, .iload 3), (20, .invokevirtual 14214), (23, .ifCond .ne 30), (26, .goto_w (-9000000000000000003)), (29, .lreturn), (30, .aload 0), (31, .checkcast 225), (34, .lload 1), (35, .iload 3), (36, .invokevirtual 14918), (39, .aload 0), (40, .checkcast 225), (43, .getfield 97), (46, .i2l), (47, .lreturn)]
/-- OverInDinghy$Reader.hasRoom(I)Z -/
def i22 : List xI := [(0, .aload 0), (1, .getfield 97), (4, .iload 1), (5, .iadd), (6, .iconst 400), (9, .if_icmp .gt 16), (12, .iconst 1), (13, .goto 17), (16, .iconst 0), (17, .ireturn)]
/-- OverInDinghy$Reader.append(JI)V -/
def i23 : List xI := [(0, .iload 3), (1, .iconst 1), (2, .isub), (3, .istore 4), (5, .iload 4), (7, .ifCond .lt 44), (10, .aload 0), (11, .checkcast 96), (14, .aload 0), (15, .getfield 97), (18, .lload 1), (19, .iconst 8), (21, .iload 4), (23, .imul), (24, .lshr), (25, .l2i), (26, .i2b), (27, .bastore), (28, .aload 0), (29, .dup), (30, .getfield 97), (33, .iconst 1), (34, .iadd), (35, .putfield 97), (38, .iinc 4 (-1)), (41, .goto 5), (44, .return_)]
/-- OverInDinghy.club()J -/
def i24 : List xI := [(0, .aload 0), (1, .checkcast 225), (4, .aload 0), (5, .checkcast 227), (8, .invokevirtual 16134), (11, .istore 1), (12, .aload 0), (13, .checkcast 225), (16, .iconst 0), (17, .putfield 97), (20, .iload 1), (21, .ifCond .ne 48), (24, .aload 0), (25, .aload 0), (26, .checkcast 225), (29, .getfield 103), (32, .putfield 234), (35, .goto_w (-9000000000000000100)), (38, .aload 0), (39, .checkcast 225), (42, .getfield 104), (45, .i2l), (46, .lsub), (47, .lreturn), (48, .aload 0), (49, .checkcast 226), (52, .aload 0), (53, .checkcast 227), (56, .invokevirtual 33412), (59, .aload 0), (60, .checkcast 226), (63, .getfield 36), (66, .i2l), (67, .lreturn)]
/-- OverInDinghy$Reader.read(LOverInDinghy$Club;)Z -/
def i25 : List xI := [(0, .aload 0), (1, .iconst 0), (2, .putfield 98), (5, .aload 1), (6, .invokevirtual 16708), (9, .aload 0), (10, .invokevirtual 17350), (13, .aload 0), (14, .aload 1), (15, .invokevirtual 20614), (18, .ifCond .ne 23), (21, .iconst 0), (22, .ireturn), (23, .iconst 0), (24, .istore 2), (25, .iload 2), (26, .iconst 6), (28, .if_icmp .gt 60), (31, .iload 2), (32, .ifCond .eq 44), (35, .aload 0), (36, .getstatic 1002), (38, .invokevirtual 21894), (41, .ifCond .eq 60), (44, .aload 0), (45, .aload 1), (46, .invokevirtual 31494), (49, .ifCond .ne 54), (52, .iconst 0), (53, .ireturn), (54, .iinc 2 1), (57, .goto 25), (60, .iconst 0), (61, .istore 2), (62, .iload 2), (63, .iconst 12), (65, .if_icmp .gt 91), (68, .aload 0), (69, .getfield 100), (72, .ifCond .eq 91), (75, .aload 0), (76, .aload 1), (77, .invokevirtual 32134), (80, .ifCond .ne 85), (83, .iconst 0), (84, .ireturn), (85, .iinc 2 1), (88, .goto 62), (91, .iconst 1), (92, .ireturn)]
/-- OverInDinghy$Club.empty()V -/
def i26 : List xI := [(0, .aload 0), (1, .iconst 0), (2, .putstatic 34), (5, .aload 0), (6, .iconst 0), (7, .putfield 35), (10, .aload 0), (11, .iconst 0), (12, .putfield 36), (15, .aload 0), (16, .iconst 0), (17, .putfield 37), (20, .aload 0), (21, .checkcast 42), (24, .iconst 0), (25, .invokestatic 1408), (28, .aload 0), (29, .checkcast 43), (32, .iconst 0), (33, .invokestatic 1408), (36, .aload 0), (37, .checkcast 44), (40, .iconst 0), (41, .invokestatic 1408), (44, .aload 0), (45, .checkcast 45), (48, .iconst 0), (49, .invokestatic 1408), (52, .aload 0), (53, .checkcast 49), (56, .iconst 0), (57, .invokestatic 1408), (60, .return_)]
/-- OverInDinghy$Reader.step()V -/
def i27 : List xI := [(0, .aload 0), (1, .getfield 98), (4, .aload 0), (5, .getfield 97), (8, .if_icmp .ge 52), (11, .aload 0), (12, .checkcast 96), (15, .aload 0), (16, .getfield 98), (19, .baload), (20, .iconst 32), (22, .if_icmp .eq 39), (25, .aload 0), (26, .checkcast 96), (29, .aload 0), (30, .getfield 98), (33, .baload), (34, .iconst 10), (36, .if_icmp .ne 52), (39, .aload 0), (40, .dup), (41, .getfield 98), (44, .iconst 1), (45, .iadd), (46, .putfield 98), (49, .goto 0), (52, .aload 0), (53, .aload 0), (54, .getfield 98), (57, .putfield 99), (60, .aload 0), (61, .getfield 99), (64, .aload 0), (65, .getfield 97), (68, .if_icmp .lt 79), (71, .aload 0), (72, .iconst 0), (73, .putfield 100), (76, .goto 156), (79, .aload 0), (80, .checkcast 96), (83, .aload 0), (84, .getfield 99), (87, .baload), (88, .invokestatic 17984), (91, .ifCond .eq 101), (94, .aload 0), (95, .invokevirtual 18630), (98, .goto 156), (101, .aload 0), (102, .checkcast 96), (105, .aload 0), (106, .getfield 99), (109, .baload), (110, .invokestatic 19264), (113, .ifCond .eq 123), (116, .aload 0), (117, .invokevirtual 19910), (120, .goto 156), (123, .aload 0), (124, .aload 0), (125, .checkcast 96), (128, .aload 0), (129, .getfield 99), (132, .baload), (133, .iconst 59), (135, .if_icmp .ne 142), (138, .iconst 3), (139, .goto 143), (142, .iconst 4), (143, .putfield 100), (146, .aload 0), (147, .dup), (148, .getfield 98), (151, .iconst 1), (152, .iadd), (153, .putfield 98), (156, .return_)]
/-- OverInDinghy$Reader.isLetter(B)Z -/
def i28 : List xI := [(0, .iload 0), (1, .iconst 97), (3, .if_icmp .lt 16), (6, .iload 0), (7, .iconst 122), (9, .if_icmp .gt 16), (12, .iconst 1), (13, .goto 17), (16, .iconst 0), (17, .ireturn)]
/-- OverInDinghy$Reader.stepName()V -/
def i29 : List xI := [(0, .aload 0), (1, .getfield 98), (4, .aload 0), (5, .getfield 97), (8, .if_icmp .ge 39), (11, .aload 0), (12, .checkcast 96), (15, .aload 0), (16, .getfield 98), (19, .baload), (20, .invokestatic 17984), (23, .ifCond .eq 39), (26, .aload 0), (27, .dup), (28, .getfield 98), (31, .iconst 1), (32, .iadd), (33, .putfield 98), (36, .goto 0), (39, .aload 0), (40, .iconst 1), (41, .putfield 100), (44, .return_)]
/-- OverInDinghy$Reader.isFigure(B)Z -/
def i30 : List xI := [(0, .iload 0), (1, .iconst 48), (3, .if_icmp .lt 16), (6, .iload 0), (7, .iconst 57), (9, .if_icmp .gt 16), (12, .iconst 1), (13, .goto 17), (16, .iconst 0), (17, .ireturn)]
/-- OverInDinghy$Reader.stepNumber()V -/
def i31 : List xI := [(0, .aload 0), (1, .iconst 0), (2, .putfield 101), (5, .aload 0), (6, .getfield 98), (9, .aload 0), (10, .getfield 97), (13, .if_icmp .ge 68), (16, .aload 0), (17, .checkcast 96), (20, .aload 0), (21, .getfield 98), (24, .baload), (25, .invokestatic 19264), (28, .ifCond .eq 68), (31, .aload 0), (32, .aload 0), (33, .getfield 101), (36, .iconst 10), (38, .imul), (39, .aload 0), (40, .checkcast 96), (43, .aload 0), (44, .getfield 98), (47, .baload), (48, .iadd), (49, .iconst 48), (51, .isub), (52, .putfield 101), (55, .aload 0), (56, .dup), (57, .getfield 98), (60, .iconst 1), (61, .iadd), (62, .putfield 98), (65, .goto 5), (68, .aload 0), (69, .aload 0), (70, .getfield 98), (73, .aload 0), (74, .getfield 99), (77, .isub), (78, .iconst 3), (79, .if_icmp .le 86), (82, .iconst 4), (83, .goto 87), (86, .iconst 2), (87, .putfield 100), (90, .return_)]
/-- OverInDinghy$Reader.readSea(LOverInDinghy$Club;)Z -/
def i32 : List xI := [(0, .aload 0), (1, .getstatic 1000), (3, .iconst 1), (4, .invokevirtual 21318), (7, .ifCond .eq 20), (10, .aload 0), (11, .iconst 0), (12, .iconst 30), (14, .invokevirtual 30278), (17, .ifCond .ne 22), (20, .iconst 0), (21, .ireturn), (22, .aload 1), (23, .aload 0), (24, .getfield 102), (27, .putfield 32), (30, .aload 0), (31, .iconst 0), (32, .iconst 40), (34, .invokevirtual 30278), (37, .ifCond .ne 42), (40, .iconst 0), (41, .ireturn), (42, .aload 1), (43, .aload 0), (44, .getfield 102), (47, .putfield 33), (50, .aload 0), (51, .getstatic 1001), (53, .invokevirtual 21894), (56, .ifCond .eq 68), (59, .aload 1), (60, .iconst 1), (61, .putstatic 34), (64, .aload 0), (65, .invokevirtual 17350), (68, .aload 0), (69, .invokevirtual 30790), (72, .ireturn)]
/-- OverInDinghy$Reader.takeWord(Ljava/lang/String;Z)Z -/
def i33 : List xI := [(0, .aload 0), (1, .aload 1), (2, .invokevirtual 21894), (5, .ifCond .ne 18), (8, .aload 0), (9, .iconst 1), (10, .aload 0), (11, .getfield 99), (14, .invokevirtual 29638), (17, .ireturn), (18, .iload 2), (19, .ifCond .ne 32), (22, .aload 0), (23, .iconst 3), (24, .aload 0), (25, .getfield 99), (28, .invokevirtual 29638), (31, .ireturn), (32, .aload 0), (33, .invokevirtual 17350), (36, .iconst 1), (37, .ireturn)]
/-- OverInDinghy$Reader.isWord(Ljava/lang/String;)Z -/
def i34 : List xI := [(0, .aload 0), (1, .getfield 100), (4, .iconst 1), (5, .if_icmp .ne 24), (8, .aload 0), (9, .getfield 98), (12, .aload 0), (13, .getfield 99), (16, .isub), (17, .aload 1), (18, .invokevirtual 22514), (21, .if_icmp .eq 26), (24, .iconst 0), (25, .ireturn), (26, .iconst 0), (27, .istore 2), (28, .iload 2), (29, .aload 1), (30, .invokevirtual 22514), (33, .if_icmp .ge 63), (36, .aload 0), (37, .checkcast 96), (40, .aload 0), (41, .getfield 99), (44, .iload 2), (45, .iadd), (46, .baload), (47, .aload 1), (48, .iload 2), (49, .invokevirtual 23858), (52, .if_icmp .eq 57), (55, .iconst 0), (56, .ireturn), (57, .iinc 2 1), (60, .goto 28), (63, .iconst 1), (64, .ireturn)]
/-- java/lang/String.length()I -/
def i35 : List xI := [(0, .aload 0), (1, .ldc_w 0), (4, .castore), (5, .aload 0), (6, .invokevirtual 23154), (9, .ishr), (10, .ireturn)]
/-- java/lang/String.coder()B -/
def i36 : List xI := [(0, .iconst 1), (3, .ifCond .eq 13), (6, .aload 0), (7, .ldc 0), (10, .goto 14), (13, .iconst 1), (14, .ireturn)]
/-- java/lang/String.charAt(I)C -/
def i37 : List xI := [(0, .aload 0), (1, .invokevirtual 24434), (4, .ifCond .eq 16), (7, .aload 0), (8, .ldc_w 0), (11, .iload 1), (12, .invokestatic 25088), (15, .ireturn), (16, .aload 0), (17, .ldc_w 0), (20, .iload 1), (21, .athrow), (24, .ireturn)]
/-- java/lang/String.isLatin1()Z -/
def i38 : List xI := [(0, .iconst 1), (3, .ifCond .eq 17), (6, .aload 0), (7, .ldc 0), (10, .ifCond .ne 17), (13, .iconst 1), (14, .goto 18), (17, .iconst 0), (18, .ireturn)]
/-- java/lang/StringLatin1.charAt([BI)C -/
def i39 : List xI := [(0, .iload 1), (1, .aload 0), (2, .castore), (3, .invokestatic 25728), (6, .aload 0), (7, .iload 1), (8, .caload), (9, .iconst 255), (12, .iand), (13, .i2c), (14, .ireturn)]
/-- java/lang/String.checkIndex(II)V -/
def i40 : List xI := [(0, .iload 0), (1, .iload 1), (2, .aconst_null), (5, .invokestatic 26432), (8, .pop), (9, .return_)]
/-- jdk/internal/util/Preconditions.checkIndex(IILjava/util/function/BiFunction;)I -/
def i41 : List xI := [(0, .iload 0), (1, .ifCond .lt 9), (4, .iload 0), (5, .iload 1), (6, .if_icmp .lt 16), (9, .aload 2), (10, .iload 0), (11, .iload 1), (12, .athrow), (15, .athrow), (16, .iload 0), (17, .ireturn)]
/-- OverInDinghy$Reader.refuse(II)Z -/
def i46 : List xI := [(0, .aload 0), (1, .iload 1), (2, .putfield 103), (5, .aload 0), (6, .iload 2), (7, .putfield 104), (10, .iconst 0), (11, .ireturn)]
/-- OverInDinghy$Reader.takeNumber(II)Z -/
def i47 : List xI := [(0, .aload 0), (1, .getfield 100), (4, .iconst 2), (5, .if_icmp .eq 18), (8, .aload 0), (9, .iconst 1), (10, .aload 0), (11, .getfield 99), (14, .invokevirtual 29638), (17, .ireturn), (18, .aload 0), (19, .getfield 101), (22, .iload 1), (23, .if_icmp .lt 34), (26, .aload 0), (27, .getfield 101), (30, .iload 2), (31, .if_icmp .le 44), (34, .aload 0), (35, .iconst 2), (36, .aload 0), (37, .getfield 99), (40, .invokevirtual 29638), (43, .ireturn), (44, .aload 0), (45, .aload 0), (46, .getfield 101), (49, .putfield 102), (52, .aload 0), (53, .invokevirtual 17350), (56, .iconst 1), (57, .ireturn)]
/-- OverInDinghy$Reader.takeSign()Z -/
def i48 : List xI := [(0, .aload 0), (1, .getfield 100), (4, .iconst 3), (5, .if_icmp .eq 18), (8, .aload 0), (9, .iconst 1), (10, .aload 0), (11, .getfield 99), (14, .invokevirtual 29638), (17, .ireturn), (18, .aload 0), (19, .invokevirtual 17350), (22, .iconst 1), (23, .ireturn)]
/-- OverInDinghy$Reader.readBoat(LOverInDinghy$Club;)Z -/
def i49 : List xI := [(0, .aload 0), (1, .getstatic 1002), (3, .aload 1), (4, .getfield 36), (7, .iconst 6), (9, .if_icmp .ge 16), (12, .iconst 1), (13, .goto 17), (16, .iconst 0), (17, .invokevirtual 21318), (20, .ifCond .eq 33), (23, .aload 0), (24, .iconst 1), (25, .iconst 30), (27, .invokevirtual 30278), (30, .ifCond .ne 35), (33, .iconst 0), (34, .ireturn), (35, .aload 1), (36, .getfield 36), (39, .istore 2), (40, .aload 1), (41, .checkcast 38), (44, .iload 2), (45, .aload 0), (46, .getfield 102), (49, .iastore), (50, .aload 0), (51, .iconst 1), (52, .iconst 30), (54, .invokevirtual 30278), (57, .ifCond .ne 62), (60, .iconst 0), (61, .ireturn), (62, .aload 1), (63, .checkcast 39), (66, .iload 2), (67, .aload 0), (68, .getfield 102), (71, .iastore), (72, .aload 0), (73, .iconst 0), (74, .iconst 9), (76, .invokevirtual 30278), (79, .ifCond .ne 84), (82, .iconst 0), (83, .ireturn), (84, .aload 1), (85, .checkcast 40), (88, .iload 2), (89, .aload 0), (90, .getfield 102), (93, .iastore), (94, .aload 0), (95, .iconst 0), (96, .iconst 20), (98, .invokevirtual 30278), (101, .ifCond .ne 106), (104, .iconst 0), (105, .ireturn), (106, .aload 1), (107, .checkcast 41), (110, .iload 2), (111, .aload 0), (112, .getfield 102), (115, .iastore), (116, .aload 1), (117, .dup), (118, .getfield 36), (121, .iconst 1), (122, .iadd), (123, .putfield 36), (126, .aload 0), (127, .invokevirtual 30790), (130, .ireturn)]
/-- OverInDinghy$Reader.readHand(LOverInDinghy$Club;)Z -/
def i50 : List xI := [(0, .aload 0), (1, .getstatic 1003), (3, .aload 1), (4, .getfield 37), (7, .iconst 12), (9, .if_icmp .ge 16), (12, .iconst 1), (13, .goto 17), (16, .iconst 0), (17, .invokevirtual 21318), (20, .ifCond .ne 25), (23, .iconst 0), (24, .ireturn), (25, .aload 0), (26, .getfield 99), (29, .istore 2), (30, .aload 0), (31, .iconst 0), (32, .aload 1), (33, .getfield 36), (36, .iconst 1), (37, .isub), (38, .invokevirtual 30278), (41, .ifCond .ne 46), (44, .iconst 0), (45, .ireturn), (46, .aload 0), (47, .getfield 102), (50, .istore 3), (51, .aload 1), (52, .iload 3), (53, .invokevirtual 32772), (56, .iconst 4), (57, .if_icmp .lt 67), (60, .aload 0), (61, .iconst 3), (62, .iload 2), (63, .invokevirtual 29638), (66, .ireturn), (67, .aload 1), (68, .getfield 37), (71, .istore 4), (73, .aload 1), (74, .checkcast 46), (77, .iload 4), (79, .iload 3), (80, .iastore), (81, .aload 0), (82, .iconst 20), (84, .iconst 150), (87, .invokevirtual 30278), (90, .ifCond .ne 95), (93, .iconst 0), (94, .ireturn), (95, .aload 1), (96, .checkcast 47), (99, .iload 4), (101, .aload 0), (102, .getfield 102), (105, .iastore), (106, .aload 0), (107, .iconst 1), (108, .iconst 60), (110, .invokevirtual 30278), (113, .ifCond .ne 118), (116, .iconst 0), (117, .ireturn), (118, .aload 1), (119, .checkcast 48), (122, .iload 4), (124, .aload 0), (125, .getfield 102), (128, .iastore), (129, .aload 1), (130, .checkcast 50), (133, .iload 4), (135, .iconst 1000), (138, .iastore), (139, .aload 1), (140, .dup), (141, .getfield 37), (144, .iconst 1), (145, .iadd), (146, .putfield 37), (149, .aload 0), (150, .invokevirtual 30790), (153, .ireturn)]
/-- OverInDinghy$Club.crewOf(I)I -/
def i51 : List xI := [(0, .iconst 0), (1, .istore 2), (2, .iconst 0), (3, .istore 3), (4, .iload 3), (5, .aload 0), (6, .getfield 37), (9, .if_icmp .ge 36), (12, .iload 2), (13, .aload 0), (14, .checkcast 46), (17, .iload 3), (18, .iaload), (19, .iload 1), (20, .if_icmp .ne 27), (23, .iconst 1), (24, .goto 28), (27, .iconst 0), (28, .iadd), (29, .istore 2), (30, .iinc 3 1), (33, .goto 4), (36, .iload 2), (37, .ireturn)]
/-- OverInDinghy$Club.become(LOverInDinghy$Club;)V -/
def i52 : List xI := [(0, .aload 0), (1, .aload 1), (2, .getfield 32), (5, .putfield 32), (8, .aload 0), (9, .aload 1), (10, .getfield 33), (13, .putfield 33), (16, .aload 0), (17, .aload 1), (18, .getfield 34), (21, .putstatic 34), (24, .aload 0), (25, .aload 1), (26, .getfield 35), (29, .putfield 35), (32, .aload 0), (33, .aload 1), (34, .getfield 36), (37, .putfield 36), (40, .aload 0), (41, .aload 1), (42, .getfield 37), (45, .putfield 37), (48, .aload 1), (49, .checkcast 38), (52, .iconst 0), (53, .aload 0), (54, .checkcast 38), (57, .iconst 0), (58, .iconst 6), (60, .nop), (63, .aload 1), (64, .checkcast 39), (67, .iconst 0), (68, .aload 0), (69, .checkcast 39), (72, .iconst 0), (73, .iconst 6), (75, .nop), (78, .aload 1), (79, .checkcast 40), (82, .iconst 0), (83, .aload 0), (84, .checkcast 40), (87, .iconst 0), (88, .iconst 6), (90, .nop), (93, .aload 1), (94, .checkcast 41), (97, .iconst 0), (98, .aload 0), (99, .checkcast 41), (102, .iconst 0), (103, .iconst 6), (105, .nop), (108, .aload 1), (109, .checkcast 42), (112, .iconst 0), (113, .aload 0), (114, .checkcast 42), (117, .iconst 0), (118, .iconst 6), (120, .nop), (123, .aload 1), (124, .checkcast 43), (127, .iconst 0), (128, .aload 0), (129, .checkcast 43), (132, .iconst 0), (133, .iconst 6), (135, .nop), (138, .aload 1), (139, .checkcast 44), (142, .iconst 0), (143, .aload 0), (144, .checkcast 44), (147, .iconst 0), (148, .iconst 6), (150, .nop), (153, .aload 1), (154, .checkcast 45), (157, .iconst 0), (158, .aload 0), (159, .checkcast 45), (162, .iconst 0), (163, .iconst 6), (165, .nop), (168, .aload 1), (169, .checkcast 46), (172, .iconst 0), (173, .aload 0), (174, .checkcast 46), (177, .iconst 0), (178, .iconst 12), (180, .nop), (183, .aload 1), (184, .checkcast 47), (187, .iconst 0), (188, .aload 0), (189, .checkcast 47), (192, .iconst 0), (193, .iconst 12), (195, .nop), (198, .aload 1), (199, .checkcast 48), (202, .iconst 0), (203, .aload 0), (204, .checkcast 48), (207, .iconst 0), (208, .iconst 12), (210, .nop), (213, .aload 1), (214, .checkcast 49), (217, .iconst 0), (218, .aload 0), (219, .checkcast 49), (222, .iconst 0), (223, .iconst 12), (225, .nop), (228, .aload 1), (229, .checkcast 50), (232, .iconst 0), (233, .aload 0), (234, .checkcast 50), (237, .iconst 0), (238, .iconst 12), (240, .nop), (243, .return_)]
/-- OverInDinghy.fault()I -/
def i53 : List xI := [(0, .aload 0), (1, .getfield 234), (4, .ireturn)]
/-- OverInDinghy.place(II)J -/
def i54 : List xI := [(0, .aload 0), (1, .checkcast 226), (4, .iload 1), (5, .invokevirtual 35332), (8, .ifCond .eq 20), (11, .iload 2), (12, .ifCond .lt 20), (15, .iload 2), (16, .iconst 3), (17, .if_icmp .le 24), (20, .goto_w (-9000000000000000001)), (23, .lreturn), (24, .aload 0), (25, .checkcast 226), (28, .iload 1), (29, .invokevirtual 35972), (32, .ifCond .eq 58), (35, .iload 2), (36, .ifCond .ne 62), (39, .aload 0), (40, .checkcast 226), (43, .aload 0), (44, .checkcast 226), (47, .checkcast 46), (50, .iload 1), (51, .iaload), (52, .invokevirtual 36612), (55, .ifCond .eq 62), (58, .goto_w (-9000000000000000002)), (61, .lreturn), (62, .aload 0), (63, .checkcast 226), (66, .checkcast 49), (69, .iload 1), (70, .iload 2), (71, .iastore), (72, .goto_w 1), (73, .lreturn)]
/-- OverInDinghy$Club.isHand(I)Z -/
def i55 : List xI := [(0, .iload 1), (1, .ifCond .lt 16), (4, .iload 1), (5, .aload 0), (6, .getfield 37), (9, .if_icmp .ge 16), (12, .iconst 1), (13, .goto 17), (16, .iconst 0), (17, .ireturn)]
/-- OverInDinghy$Club.can(I)Z -/
def i56 : List xI := [(0, .aload 0), (1, .checkcast 50), (4, .iload 1), (5, .iaload), (6, .ifCond .le 13), (9, .iconst 1), (10, .goto 14), (13, .iconst 0), (14, .ireturn)]
/-- OverInDinghy$Club.isOver(I)Z -/
def i57 : List xI := [(0, .aload 0), (1, .checkcast 42), (4, .iload 1), (5, .iaload), (6, .ifCond .eq 23), (9, .aload 0), (10, .checkcast 42), (13, .iload 1), (14, .iaload), (15, .iconst 4), (16, .if_icmp .eq 23), (19, .iconst 1), (20, .goto 24), (23, .iconst 0), (24, .ireturn)]
/-- OverInDinghy.tip(I)J -/
def i58 : List xI := [(0, .aload 0), (1, .checkcast 226), (4, .iload 1), (5, .invokevirtual 37892), (8, .ifCond .ne 15), (11, .goto_w (-9000000000000000001)), (14, .lreturn), (15, .aload 0), (16, .checkcast 226), (19, .iload 1), (20, .invokevirtual 36612), (23, .ifCond .eq 30), (26, .goto_w (-9000000000000000002)), (29, .lreturn), (30, .aload 0), (31, .checkcast 226), (34, .iload 1), (35, .invokevirtual 38532), (38, .goto_w 1), (39, .lreturn)]
/-- OverInDinghy$Club.isBoat(I)Z -/
def i59 : List xI := [(0, .iload 1), (1, .ifCond .lt 16), (4, .iload 1), (5, .aload 0), (6, .getfield 36), (9, .if_icmp .ge 16), (12, .iconst 1), (13, .goto 17), (16, .iconst 0), (17, .ireturn)]
/-- OverInDinghy$Club.capsize(I)V -/
def i60 : List xI := [(0, .aload 0), (1, .checkcast 42), (4, .iload 1), (5, .iconst 1), (6, .iastore), (7, .aload 0), (8, .checkcast 43), (11, .iload 1), (12, .iconst 0), (13, .iastore), (14, .aload 0), (15, .checkcast 44), (18, .iload 1), (19, .iconst 0), (20, .iastore), (21, .aload 0), (22, .checkcast 45), (25, .iload 1), (26, .dup2), (27, .iaload), (28, .iconst 1), (29, .iadd), (30, .iastore), (31, .aload 0), (32, .iload 1), (33, .iconst 0), (34, .iconst 1), (35, .invokevirtual 39300), (38, .return_)]
/-- OverInDinghy$Club.sendAll(III)V -/
def i61 : List xI := [(0, .iconst 0), (1, .istore 4), (3, .iload 4), (5, .aload 0), (6, .getfield 37), (9, .if_icmp .ge 48), (12, .aload 0), (13, .checkcast 46), (16, .iload 4), (18, .iaload), (19, .iload 1), (20, .if_icmp .ne 42), (23, .aload 0), (24, .checkcast 49), (27, .iload 4), (29, .iaload), (30, .iload 2), (31, .if_icmp .ne 42), (34, .aload 0), (35, .checkcast 49), (38, .iload 4), (40, .iload 3), (41, .iastore), (42, .iinc 4 1), (45, .goto 3), (48, .return_)]
/-- OverInDinghy.go(II)J -/
def i62 : List xI := [(0, .aload 0), (1, .checkcast 226), (4, .invokevirtual 40388), (7, .ifCond .eq 14), (10, .goto_w (-9000000000000000002)), (13, .lreturn), (14, .iload 1), (15, .iconst 1), (16, .if_icmp .lt 36), (19, .iload 1), (20, .iconst 60), (22, .if_icmp .gt 36), (25, .iload 2), (26, .iconst 1), (27, .if_icmp .lt 36), (30, .iload 2), (31, .iconst 999999), (33, .if_icmp .le 40), (36, .goto_w (-9000000000000000001)), (39, .lreturn), (40, .aload 0), (41, .checkcast 230), (44, .iload 2), (45, .invokevirtual 41093), (48, .iconst 0), (49, .istore 3), (50, .iload 3), (51, .iload 1), (52, .if_icmp .ge 72), (55, .aload 0), (56, .checkcast 226), (59, .aload 0), (60, .checkcast 230), (63, .invokevirtual 41732), (66, .iinc 3 1), (69, .goto 50), (72, .aload 0), (73, .checkcast 226), (76, .getfield 35), (79, .i2l), (80, .lreturn)]
/-- OverInDinghy$Club.isNone()Z -/
def i63 : List xI := [(0, .aload 0), (1, .getfield 36), (4, .ifCond .ne 11), (7, .iconst 1), (8, .goto 12), (11, .iconst 0), (12, .ireturn)]
/-- OverInDinghy$Draws.begin(I)V -/
def i64 : List xI := [(0, .aload 0), (1, .iconst 0), (2, .putstatic 64), (5, .aload 0), (6, .iload 1), (7, .i2l), (8, .anewarray 65), (11, .return_)]
/-- OverInDinghy$Club.tick(LOverInDinghy$Draws;)V -/
def i65 : List xI := [(0, .iconst 0), (1, .istore 2), (2, .iload 2), (3, .aload 0), (4, .getfield 36), (7, .if_icmp .ge 22), (10, .aload 0), (11, .iload 2), (12, .aload 1), (13, .invokevirtual 42436), (16, .iinc 2 1), (19, .goto 2), (22, .aload 0), (23, .dup), (24, .getfield 35), (27, .iconst 1), (28, .iadd), (29, .putfield 35), (32, .return_)]
/-- OverInDinghy$Club.tickBoat(ILOverInDinghy$Draws;)V -/
def i66 : List xI := [(0, .aload 0), (1, .iload 1), (2, .invokevirtual 43012), (5, .istore 3), (6, .aload 0), (7, .iload 1), (8, .invokevirtual 44932), (11, .istore 4), (13, .aload 0), (14, .checkcast 42), (17, .iload 1), (18, .iaload), (19, .tableswitch 125 1 3 #[44, 67, 103]), (44, .iload 3), (45, .iload 4), (47, .if_icmp .gt 59), (50, .aload 0), (51, .iload 1), (52, .aload 2), (53, .invokevirtual 46916), (56, .goto 131), (59, .aload 0), (60, .iload 1), (61, .invokevirtual 48132), (64, .goto 131), (67, .iconst 2), (68, .iload 3), (69, .imul), (70, .iload 4), (72, .if_icmp .gt 131), (75, .aload 0), (76, .checkcast 42), (79, .iload 1), (80, .iconst 1), (81, .iastore), (82, .aload 0), (83, .checkcast 43), (86, .iload 1), (87, .iconst 50), (89, .iastore), (90, .aload 0), (91, .checkcast 45), (94, .iload 1), (95, .dup2), (96, .iaload), (97, .iconst 1), (98, .iadd), (99, .iastore), (100, .goto 131), (103, .aload 0), (104, .checkcast 42), (107, .iload 1), (108, .iconst 3), (109, .iload 3), (110, .imul), (111, .iload 4), (113, .if_icmp .gt 120), (116, .iconst 2), (117, .goto 121), (120, .iconst 3), (121, .iastore), (122, .goto 131), (125, .aload 0), (126, .iload 1), (127, .aload 2), (128, .invokevirtual 49476), (131, .aload 0), (132, .iload 1), (133, .invokevirtual 51332), (136, .return_)]
/-- OverInDinghy$Club.needNow(I)I -/
def i67 : List xI := [(0, .aload 0), (1, .iload 1), (2, .aload 0), (3, .checkcast 43), (6, .iload 1), (7, .iaload), (8, .aload 0), (9, .iload 1), (10, .iconst 3), (11, .invokevirtual 43716), (14, .ifCond .le 21), (17, .iconst 1), (18, .goto 22), (21, .iconst 0), (22, .invokevirtual 44420), (25, .ireturn)]
/-- OverInDinghy$Club.ableAt(II)I -/
def i68 : List xI := [(0, .iconst 0), (1, .istore 3), (2, .iconst 0), (3, .istore 4), (5, .iload 4), (7, .aload 0), (8, .getfield 37), (11, .if_icmp .ge 60), (14, .iload 3), (15, .aload 0), (16, .checkcast 46), (19, .iload 4), (21, .iaload), (22, .iload 1), (23, .if_icmp .ne 51), (26, .aload 0), (27, .checkcast 49), (30, .iload 4), (32, .iaload), (33, .iload 2), (34, .if_icmp .ne 51), (37, .aload 0), (38, .checkcast 50), (41, .iload 4), (43, .iaload), (44, .ifCond .le 51), (47, .iconst 1), (48, .goto 52), (51, .iconst 0), (52, .iadd), (53, .istore 3), (54, .iinc 4 1), (57, .goto 5), (60, .iload 3), (61, .ireturn)]
/-- OverInDinghy$Club.need(IIZ)I -/
def i69 : List xI := [(0, .iconst 10), (2, .aload 0), (3, .checkcast 39), (6, .iload 1), (7, .iaload), (8, .imul), (9, .iload 2), (10, .iadd), (11, .iload 3), (12, .ifCond .eq 19), (15, .iconst 0), (16, .goto 25), (19, .iconst 2), (20, .aload 0), (21, .getfield 33), (24, .imul), (25, .iadd), (26, .ireturn)]
/-- OverInDinghy$Club.leverNow(I)I -/
def i70 : List xI := [(0, .aload 0), (1, .iload 1), (2, .aload 0), (3, .iload 1), (4, .invokevirtual 45572), (7, .invokevirtual 46276), (10, .ireturn)]
/-- OverInDinghy$Club.ableWeightOnBoard(I)I -/
def i71 : List xI := [(0, .iconst 0), (1, .istore 2), (2, .iconst 0), (3, .istore 3), (4, .iload 3), (5, .aload 0), (6, .getfield 37), (9, .if_icmp .ge 60), (12, .iload 2), (13, .aload 0), (14, .checkcast 46), (17, .iload 3), (18, .iaload), (19, .iload 1), (20, .if_icmp .ne 51), (23, .aload 0), (24, .checkcast 49), (27, .iload 3), (28, .iaload), (29, .iconst 2), (30, .if_icmp .ne 51), (33, .aload 0), (34, .checkcast 50), (37, .iload 3), (38, .iaload), (39, .ifCond .le 51), (42, .aload 0), (43, .checkcast 47), (46, .iload 3), (47, .iaload), (48, .goto 52), (51, .iconst 0), (52, .iadd), (53, .istore 2), (54, .iinc 3 1), (57, .goto 4), (60, .iload 2), (61, .ireturn)]
/-- OverInDinghy$Club.lever(II)I -/
def i72 : List xI := [(0, .iload 2), (1, .aload 0), (2, .checkcast 38), (5, .iload 1), (6, .iaload), (7, .imul), (8, .iconst 10), (10, .idiv), (11, .ireturn)]
/-- OverInDinghy$Club.comeUp(ILOverInDinghy$Draws;)V -/
def i73 : List xI := [(0, .aload 0), (1, .checkcast 42), (4, .iload 1), (5, .iconst 4), (6, .iastore), (7, .aload 0), (8, .checkcast 44), (11, .iload 1), (12, .iconst 70), (14, .iconst 6), (16, .aload 0), (17, .checkcast 40), (20, .iload 1), (21, .iaload), (22, .imul), (23, .isub), (24, .iastore), (25, .aload 0), (26, .checkcast 43), (29, .iload 1), (30, .iconst 0), (31, .iastore), (32, .aload 0), (33, .iload 1), (34, .iconst 2), (35, .iconst 0), (36, .invokevirtual 39300), (39, .aload 2), (40, .getfield 64), (43, .ifCond .ne 77), (46, .aload 0), (47, .iload 1), (48, .iconst 3), (49, .invokevirtual 43716), (52, .ifCond .ne 77), (55, .aload 2), (56, .iconst 100), (58, .invokevirtual 47493), (61, .iconst 2), (62, .aload 0), (63, .getfield 33), (66, .imul), (67, .i2l), (68, .lcmp), (69, .ifCond .ge 77), (72, .aload 0), (73, .iload 1), (74, .invokevirtual 38532), (77, .return_)]
/-- OverInDinghy$Draws.draw(I)J -/
def i74 : List xI := [(0, .aload 0), (1, .aload 0), (2, .instanceof 65), (5, .goto_w 16807), (8, .lmul), (9, .goto_w 2147483647), (12, .lrem), (13, .anewarray 65), (16, .iload 1), (17, .iconst 1), (18, .if_icmp .ge 25), (21, .goto_w 0), (22, .goto 32), (25, .aload 0), (26, .instanceof 65), (29, .iload 1), (30, .i2l), (31, .lrem), (32, .lreturn)]
/-- OverInDinghy$Club.fillMast(I)V -/
def i75 : List xI := [(0, .aload 0), (1, .checkcast 43), (4, .iload 1), (5, .iconst 100), (7, .aload 0), (8, .checkcast 43), (11, .iload 1), (12, .iaload), (13, .iconst 20), (15, .iadd), (16, .aload 0), (17, .checkcast 41), (20, .iload 1), (21, .iaload), (22, .isub), (23, .fsub), (26, .iastore), (27, .aload 0), (28, .checkcast 43), (31, .iload 1), (32, .iaload), (33, .iconst 100), (35, .if_icmp .ne 56), (38, .aload 0), (39, .checkcast 42), (42, .iload 1), (43, .aload 0), (44, .getfield 34), (47, .ifCond .eq 54), (50, .iconst 3), (51, .goto 55), (54, .iconst 2), (55, .iastore), (56, .return_)]
/-- OverInDinghy$Club.rideOrBail(ILOverInDinghy$Draws;)V -/
def i77 : List xI := [(0, .aload 0), (1, .iload 1), (2, .invokevirtual 50052), (5, .iconst 5), (6, .aload 0), (7, .checkcast 38), (10, .iload 1), (11, .iaload), (12, .imul), (13, .iadd), (14, .aload 0), (15, .checkcast 44), (18, .iload 1), (19, .iaload), (20, .isub), (21, .istore 3), (22, .aload 2), (23, .getfield 64), (26, .ifCond .ne 63), (29, .aload 0), (30, .getfield 33), (33, .i2l), (34, .aload 2), (35, .iconst 10), (37, .invokevirtual 47493), (40, .ladd), (41, .aload 0), (42, .checkcast 39), (45, .iload 1), (46, .iaload), (47, .i2l), (48, .lmul), (49, .iload 3), (50, .i2l), (51, .lcmp), (52, .ifCond .le 63), (55, .aload 0), (56, .iload 1), (57, .invokevirtual 38532), (60, .goto 125), (63, .aload 0), (64, .checkcast 42), (67, .iload 1), (68, .iaload), (69, .iconst 4), (70, .if_icmp .ne 125), (73, .aload 0), (74, .checkcast 44), (77, .iload 1), (78, .iconst 0), (79, .aload 0), (80, .checkcast 44), (83, .iload 1), (84, .iaload), (85, .iconst 5), (86, .aload 0), (87, .iload 1), (88, .iconst 0), (89, .invokevirtual 43716), (92, .imul), (93, .isub), (94, .aload 0), (95, .checkcast 40), (98, .iload 1), (99, .iaload), (100, .isub), (101, .fadd), (104, .iastore), (105, .aload 0), (106, .checkcast 42), (109, .iload 1), (110, .aload 0), (111, .checkcast 44), (114, .iload 1), (115, .iaload), (116, .ifCond .ne 123), (119, .iconst 0), (120, .goto 124), (123, .iconst 4), (124, .iastore), (125, .return_)]
/-- OverInDinghy$Club.weightIn(I)I -/
def i78 : List xI := [(0, .iconst 0), (1, .istore 2), (2, .iconst 0), (3, .istore 3), (4, .iload 3), (5, .aload 0), (6, .getfield 37), (9, .if_icmp .ge 50), (12, .iload 2), (13, .aload 0), (14, .checkcast 46), (17, .iload 3), (18, .iaload), (19, .iload 1), (20, .if_icmp .ne 41), (23, .aload 0), (24, .checkcast 49), (27, .iload 3), (28, .iaload), (29, .ifCond .ne 41), (32, .aload 0), (33, .checkcast 47), (36, .iload 3), (37, .iaload), (38, .goto 42), (41, .iconst 0), (42, .iadd), (43, .istore 2), (44, .iinc 3 1), (47, .goto 4), (50, .iload 2), (51, .ireturn)]
/-- OverInDinghy$Club.chill(I)V -/
def i80 : List xI := [(0, .iconst 0), (1, .istore 2), (2, .iload 2), (3, .aload 0), (4, .getfield 37), (7, .if_icmp .ge 67), (10, .aload 0), (11, .checkcast 46), (14, .iload 2), (15, .iaload), (16, .iload 1), (17, .if_icmp .ne 61), (20, .aload 0), (21, .checkcast 49), (24, .iload 2), (25, .iaload), (26, .ifCond .ne 39), (29, .aload 0), (30, .checkcast 42), (33, .iload 1), (34, .iaload), (35, .iconst 4), (36, .if_icmp .ne 61), (39, .aload 0), (40, .checkcast 50), (43, .iload 2), (44, .iconst 0), (45, .aload 0), (46, .checkcast 50), (49, .iload 2), (50, .iaload), (51, .aload 0), (52, .iload 2), (53, .invokevirtual 51972), (56, .isub), (57, .fadd), (60, .iastore), (61, .iinc 2 1), (64, .goto 2), (67, .return_)]
/-- OverInDinghy$Club.chillOf(I)I -/
def i81 : List xI := [(0, .iconst 6), (2, .aload 0), (3, .checkcast 48), (6, .iload 1), (7, .iaload), (8, .imul), (9, .istore 2), (10, .iload 2), (11, .iconst 1), (12, .if_icmp .ge 17), (15, .iconst 0), (16, .ireturn), (17, .iconst 1000), (20, .iload 2), (21, .idiv), (22, .istore 3), (23, .aload 0), (24, .getfield 32), (27, .iconst 10), (29, .if_icmp .ge 40), (32, .iload 3), (33, .iload 3), (34, .iconst 2), (35, .idiv), (36, .iadd), (37, .goto 41), (40, .iload 3), (41, .ireturn)]
/-- OverInDinghy.boat(II)J -/
def i82 : List xI := [(0, .aload 0), (1, .checkcast 226), (4, .iload 1), (5, .invokevirtual 37892), (8, .ifCond .ne 15), (11, .goto_w (-9000000000000000001)), (14, .lreturn), (15, .iload 2), (16, .tableswitch 134 0 6 #[60, 71, 82, 93, 103, 113, 123]), (60, .aload 0), (61, .checkcast 226), (64, .checkcast 42), (67, .iload 1), (68, .iaload), (69, .i2l), (70, .lreturn), (71, .aload 0), (72, .checkcast 226), (75, .checkcast 43), (78, .iload 1), (79, .iaload), (80, .i2l), (81, .lreturn), (82, .aload 0), (83, .checkcast 226), (86, .checkcast 44), (89, .iload 1), (90, .iaload), (91, .i2l), (92, .lreturn), (93, .aload 0), (94, .checkcast 226), (97, .iload 1), (98, .invokevirtual 43012), (101, .i2l), (102, .lreturn), (103, .aload 0), (104, .checkcast 226), (107, .iload 1), (108, .invokevirtual 44932), (111, .i2l), (112, .lreturn), (113, .aload 0), (114, .checkcast 226), (117, .iload 1), (118, .invokevirtual 50052), (121, .i2l), (122, .lreturn), (123, .aload 0), (124, .checkcast 226), (127, .checkcast 45), (130, .iload 1), (131, .iaload), (132, .i2l), (133, .lreturn), (134, .goto_w (-9000000000000000001)), (137, .lreturn)]
/-- OverInDinghy.hand(II)J -/
def i83 : List xI := [(0, .aload 0), (1, .checkcast 226), (4, .iload 1), (5, .invokevirtual 35332), (8, .ifCond .ne 15), (11, .goto_w (-9000000000000000001)), (14, .lreturn), (15, .iload 2), (16, .tableswitch 92 0 3 #[48, 59, 70, 81]), (48, .aload 0), (49, .checkcast 226), (52, .checkcast 46), (55, .iload 1), (56, .iaload), (57, .i2l), (58, .lreturn), (59, .aload 0), (60, .checkcast 226), (63, .checkcast 47), (66, .iload 1), (67, .iaload), (68, .i2l), (69, .lreturn), (70, .aload 0), (71, .checkcast 226), (74, .checkcast 49), (77, .iload 1), (78, .iaload), (79, .i2l), (80, .lreturn), (81, .aload 0), (82, .checkcast 226), (85, .checkcast 50), (88, .iload 1), (89, .iaload), (90, .i2l), (91, .lreturn), (92, .goto_w (-9000000000000000001)), (95, .lreturn)]
/-- OverInDinghy.rights(IIII)J -/
def i84 : List xI := [(0, .aload 0), (1, .checkcast 226), (4, .iload 1), (5, .invokevirtual 37892), (8, .ifCond .eq 27), (11, .iload 2), (12, .ifCond .lt 27), (15, .iload 2), (16, .iconst 100), (18, .if_icmp .gt 27), (21, .iload 4), (23, .iconst (-1)), (24, .if_icmp .ge 31), (27, .goto_w (-9000000000000000001)), (30, .lreturn), (31, .iload 3), (32, .iconst (-1)), (33, .if_icmp .eq 52), (36, .aload 0), (37, .checkcast 226), (40, .iload 3), (41, .iload 1), (42, .invokevirtual 54596), (45, .ifCond .ne 52), (48, .goto_w (-9000000000000000001)), (51, .lreturn), (52, .iload 3), (53, .iconst (-1)), (54, .if_icmp .eq 72), (57, .aload 0), (58, .checkcast 226), (61, .iload 3), (62, .invokevirtual 35972), (65, .ifCond .ne 72), (68, .goto_w (-9000000000000000002)), (71, .lreturn), (72, .aload 0), (73, .checkcast 226), (76, .iload 1), (77, .iload 2), (78, .iload 3), (79, .iload 4), (81, .invokestatic 55360), (84, .lreturn)]
/-- OverInDinghy$Club.isHandOf(II)Z -/
def i85 : List xI := [(0, .aload 0), (1, .iload 1), (2, .invokevirtual 35332), (5, .ifCond .eq 22), (8, .aload 0), (9, .checkcast 46), (12, .iload 1), (13, .iaload), (14, .iload 2), (15, .if_icmp .ne 22), (18, .iconst 1), (19, .goto 23), (22, .iconst 0), (23, .ireturn)]
/-- OverInDinghy$Foretold.enough(LOverInDinghy$Club;IIII)J -/
def i86 : List xI := [(0, .aload 0), (1, .iload 1), (2, .iload 2), (3, .iload 3), (4, .iconst (-1)), (5, .if_icmp .eq 12), (8, .iconst 1), (9, .goto 13), (12, .iconst 0), (13, .invokevirtual 44420), (16, .istore 5), (18, .aload 0), (19, .iload 1), (20, .iload 3), (21, .invokestatic 55872), (24, .istore 6), (26, .iconst 0), (27, .istore 7), (29, .iconst 0), (30, .istore 8), (32, .iconst 1), (33, .istore 9), (35, .iload 9), (37, .iconst 16), (39, .if_icmp .ge 96), (42, .iload 8), (44, .iload 6), (46, .isub), (47, .iload 6), (49, .iand), (50, .istore 8), (52, .iload 8), (54, .ifCond .ne 60), (57, .goto 96), (60, .aload 0), (61, .iload 1), (62, .aload 0), (63, .iload 8), (65, .invokestatic 56448), (68, .invokevirtual 46276), (71, .iload 5), (73, .if_icmp .lt 90), (76, .iload 7), (78, .iload 4), (80, .if_icmp .ne 87), (83, .iload 8), (85, .i2l), (86, .lreturn), (87, .iinc 7 1), (90, .iinc 9 1), (93, .goto 35), (96, .iload 4), (98, .iconst (-1)), (99, .if_icmp .ne 108), (102, .iload 7), (104, .i2l), (105, .goto 111), (108, .goto_w (-1000000)), (111, .lreturn)]
/-- OverInDinghy$Foretold.ableBits(LOverInDinghy$Club;II)I -/
def i87 : List xI := [(0, .iconst 0), (1, .istore 3), (2, .iconst 0), (3, .istore 4), (5, .iload 4), (7, .aload 0), (8, .getfield 37), (11, .if_icmp .ge 53), (14, .aload 0), (15, .checkcast 46), (18, .iload 4), (20, .iaload), (21, .iload 1), (22, .if_icmp .ne 47), (25, .iload 4), (27, .iload 2), (28, .if_icmp .eq 47), (31, .aload 0), (32, .iload 4), (34, .invokevirtual 35972), (37, .ifCond .eq 47), (40, .iload 3), (41, .iconst 1), (42, .iload 4), (44, .ishl), (45, .ior), (46, .istore 3), (47, .iinc 4 1), (50, .goto 5), (53, .iload 3), (54, .ireturn)]
/-- OverInDinghy$Foretold.weightOf(LOverInDinghy$Club;I)I -/
def i88 : List xI := [(0, .iconst 0), (1, .istore 2), (2, .iconst 0), (3, .istore 3), (4, .iload 3), (5, .aload 0), (6, .getfield 37), (9, .if_icmp .ge 40), (12, .iload 2), (13, .iload 1), (14, .iload 3), (15, .ishr), (16, .iconst 1), (17, .iand), (18, .iconst 1), (19, .if_icmp .ne 31), (22, .aload 0), (23, .checkcast 47), (26, .iload 3), (27, .iaload), (28, .goto 32), (31, .iconst 0), (32, .iadd), (33, .istore 2), (34, .iinc 3 1), (37, .goto 4), (40, .iload 2), (41, .ireturn)]
/-- OverInDinghy.lightest(I)J -/
def i89 : List xI := [(0, .aload 0), (1, .checkcast 226), (4, .iload 1), (5, .invokevirtual 37892), (8, .ifCond .eq 23), (11, .aload 0), (12, .checkcast 226), (15, .iload 1), (16, .invokestatic 57728), (19, .i2l), (20, .goto 26), (23, .goto_w (-9000000000000000001)), (26, .lreturn)]
/-- OverInDinghy$Foretold.leastWeight(LOverInDinghy$Club;I)I -/
def i90 : List xI := [(0, .aload 0), (1, .iload 1), (2, .iconst 0), (3, .iconst 0), (4, .invokevirtual 44420), (7, .istore 2), (8, .iconst 20), (10, .istore 3), (11, .iload 3), (12, .iconst 150), (15, .if_icmp .gt 36), (18, .aload 0), (19, .iload 1), (20, .iload 3), (21, .invokevirtual 46276), (24, .iload 2), (25, .if_icmp .lt 30), (28, .iload 3), (29, .ireturn), (30, .iinc 3 1), (33, .goto 11), (36, .iconst (-1000000)), (38, .ireturn)]
/-- OverInDinghy.round(I)J -/
def i91 : List xI := [(0, .aload 0), (1, .checkcast 226), (4, .iload 1), (5, .invokevirtual 37892), (8, .ifCond .eq 27), (11, .aload 0), (12, .checkcast 226), (15, .checkcast 41), (18, .iload 1), (19, .iaload), (20, .invokestatic 58944), (23, .i2l), (24, .goto 30), (27, .goto_w (-9000000000000000001)), (30, .lreturn)]
/-- OverInDinghy$Foretold.ticksTillRound(I)I -/
def i92 : List xI := [(0, .iconst 100), (2, .iconst 20), (4, .iload 0), (5, .isub), (6, .invokestatic 59648), (9, .ireturn)]
/-- OverInDinghy$Foretold.upTo(II)I -/
def i93 : List xI := [(0, .iload 1), (1, .iconst 1), (2, .if_icmp .ge 10), (5, .iconst (-1000000)), (7, .goto 17), (10, .iload 0), (11, .iload 1), (12, .iadd), (13, .iconst 1), (14, .isub), (15, .iload 1), (16, .idiv), (17, .ireturn)]
/-- OverInDinghy.quickest(II)J -/
def i94 : List xI := [(0, .aload 0), (1, .checkcast 226), (4, .iload 1), (5, .invokevirtual 37892), (8, .ifCond .eq 20), (11, .iload 2), (12, .ifCond .lt 20), (15, .iload 2), (16, .iconst 1), (17, .if_icmp .le 24), (20, .goto_w (-9000000000000000001)), (23, .lreturn), (24, .aload 0), (25, .checkcast 226), (28, .checkcast 42), (31, .iload 1), (32, .iaload), (33, .iconst 1), (34, .if_icmp .eq 41), (37, .goto_w (-9000000000000000002)), (40, .lreturn), (41, .aload 0), (42, .checkcast 231), (45, .aload 0), (46, .checkcast 226), (49, .iload 1), (50, .invokevirtual 61001), (53, .iload 2), (54, .ifCond .ne 68), (57, .aload 0), (58, .checkcast 231), (61, .invokevirtual 66633), (64, .i2l), (65, .goto 76), (68, .aload 0), (69, .checkcast 231), (72, .getfield 198), (75, .i2l), (76, .lreturn)]
/-- OverInDinghy$Search.look(LOverInDinghy$Club;I)V -/
def i95 : List xI := [(0, .aload 0), (1, .checkcast 192), (4, .aload 1), (5, .invokevirtual 33412), (8, .aload 0), (9, .iconst 21), (11, .putfield 197), (14, .aload 0), (15, .iconst (-1000000)), (17, .putfield 198), (20, .aload 0), (21, .aload 0), (22, .iload 2), (23, .iconst 0), (24, .invokevirtual 61641), (27, .putfield 195), (30, .aload 0), (31, .aload 0), (32, .iload 2), (33, .aload 0), (34, .getfield 195), (37, .iconst 1), (38, .iadd), (39, .invokevirtual 61641), (42, .putfield 196), (45, .aload 0), (46, .getfield 196), (49, .aload 0), (50, .checkcast 192), (53, .getfield 37), (56, .if_icmp .lt 60), (59, .return_), (60, .aload 0), (61, .iload 2), (62, .iconst 1), (63, .invokevirtual 62281), (66, .iconst 0), (67, .istore 3), (68, .iload 3), (69, .iconst 4096), (72, .if_icmp .ge 94), (75, .iload 3), (76, .invokestatic 62784), (79, .ifCond .ne 88), (82, .aload 0), (83, .iload 2), (84, .iload 3), (85, .invokevirtual 63561), (88, .iinc 3 1), (91, .goto 68), (94, .return_)]
/-- OverInDinghy$Search.nextAble(II)I -/
def i96 : List xI := [(0, .iload 2), (1, .istore 3), (2, .iload 3), (3, .aload 0), (4, .checkcast 192), (7, .getfield 37), (10, .if_icmp .ge 45), (13, .aload 0), (14, .checkcast 192), (17, .checkcast 46), (20, .iload 3), (21, .iaload), (22, .iload 1), (23, .if_icmp .ne 39), (26, .aload 0), (27, .checkcast 192), (30, .iload 3), (31, .invokevirtual 35972), (34, .ifCond .eq 39), (37, .iload 3), (38, .ireturn), (39, .iinc 3 1), (42, .goto 2), (45, .aload 0), (46, .checkcast 192), (49, .getfield 37), (52, .ireturn)]
/-- OverInDinghy$Search.keep(II)V -/
def i97 : List xI := [(0, .iload 2), (1, .iconst 1), (2, .isub), (3, .iconst 27), (5, .imul), (6, .istore 3), (7, .aload 0), (8, .checkcast 194), (11, .iload 3), (12, .aload 0), (13, .checkcast 192), (16, .checkcast 42), (19, .iload 1), (20, .iaload), (21, .iastore), (22, .aload 0), (23, .checkcast 194), (26, .iload 3), (27, .iconst 1), (28, .iadd), (29, .aload 0), (30, .checkcast 192), (33, .checkcast 43), (36, .iload 1), (37, .iaload), (38, .iastore), (39, .aload 0), (40, .checkcast 194), (43, .iload 3), (44, .iconst 2), (45, .iadd), (46, .aload 0), (47, .checkcast 192), (50, .checkcast 44), (53, .iload 1), (54, .iaload), (55, .iastore), (56, .aload 0), (57, .checkcast 192), (60, .checkcast 49), (63, .iconst 0), (64, .aload 0), (65, .checkcast 194), (68, .iload 3), (69, .iconst 3), (70, .iadd), (71, .iconst 12), (73, .nop), (76, .aload 0), (77, .checkcast 192), (80, .checkcast 50), (83, .iconst 0), (84, .aload 0), (85, .checkcast 194), (88, .iload 3), (89, .iconst 3), (90, .iadd), (91, .iconst 12), (93, .iadd), (94, .iconst 12), (96, .nop), (99, .return_)]
/-- OverInDinghy$Search.tellsWater(I)Z -/
def i98 : List xI := [(0, .iload 0), (1, .iload 0), (2, .iconst 1), (3, .ishr), (4, .iconst (-1)), (5, .ixor), (6, .iand), (7, .iconst 1365), (10, .iand), (11, .ifCond .eq 18), (14, .iconst 1), (15, .goto 19), (18, .iconst 0), (19, .ireturn)]
/-- OverInDinghy$Search.tryRow(II)V -/
def i99 : List xI := [(0, .iload 2), (1, .iconst 256), (4, .irem), (5, .ifCond .ne 12), (8, .iconst 1), (9, .goto 24), (12, .iload 2), (13, .iconst 16), (15, .irem), (16, .ifCond .ne 23), (19, .iconst 2), (20, .goto 24), (23, .iconst 3), (24, .istore 3), (25, .aload 0), (26, .iload 1), (27, .iload 3), (28, .invokevirtual 64201), (31, .iload 3), (32, .istore 4), (34, .iload 4), (36, .aload 0), (37, .getfield 197), (40, .if_icmp .ge 150), (43, .aload 0), (44, .checkcast 192), (47, .checkcast 42), (50, .iload 1), (51, .iaload), (52, .istore 5), (54, .aload 0), (55, .checkcast 192), (58, .checkcast 44), (61, .iload 1), (62, .iaload), (63, .istore 6), (65, .aload 0), (66, .iload 1), (67, .iload 2), (68, .iload 4), (70, .invokestatic 64768), (73, .invokevirtual 65481), (76, .ifCond .eq 97), (79, .aload 0), (80, .iload 4), (82, .putfield 197), (85, .aload 0), (86, .iload 2), (87, .iconst 256), (90, .idiv), (91, .putfield 198), (94, .goto 144), (97, .iload 4), (99, .iconst 3), (100, .if_icmp .ge 115), (103, .aload 0), (104, .iload 1), (105, .iload 4), (107, .iconst 1), (108, .iadd), (109, .invokevirtual 62281), (112, .goto 144), (115, .aload 0), (116, .checkcast 192), (119, .checkcast 42), (122, .iload 1), (123, .iaload), (124, .iload 5), (126, .if_icmp .ne 144), (129, .aload 0), (130, .checkcast 192), (133, .checkcast 44), (136, .iload 1), (137, .iaload), (138, .iload 6), (140, .if_icmp .ne 144), (143, .return_), (144, .iinc 4 1), (147, .goto 34), (150, .return_)]
/-- OverInDinghy$Search.bringBack(II)V -/
def i100 : List xI := [(0, .iload 2), (1, .iconst 1), (2, .isub), (3, .iconst 27), (5, .imul), (6, .istore 3), (7, .aload 0), (8, .checkcast 192), (11, .checkcast 42), (14, .iload 1), (15, .aload 0), (16, .checkcast 194), (19, .iload 3), (20, .iaload), (21, .iastore), (22, .aload 0), (23, .checkcast 192), (26, .checkcast 43), (29, .iload 1), (30, .aload 0), (31, .checkcast 194), (34, .iload 3), (35, .iconst 1), (36, .iadd), (37, .iaload), (38, .iastore), (39, .aload 0), (40, .checkcast 192), (43, .checkcast 44), (46, .iload 1), (47, .aload 0), (48, .checkcast 194), (51, .iload 3), (52, .iconst 2), (53, .iadd), (54, .iaload), (55, .iastore), (56, .aload 0), (57, .checkcast 194), (60, .iload 3), (61, .iconst 3), (62, .iadd), (63, .aload 0), (64, .checkcast 192), (67, .checkcast 49), (70, .iconst 0), (71, .iconst 12), (73, .nop), (76, .aload 0), (77, .checkcast 194), (80, .iload 3), (81, .iconst 3), (82, .iadd), (83, .iconst 12), (85, .iadd), (86, .aload 0), (87, .checkcast 192), (90, .checkcast 50), (93, .iconst 0), (94, .iconst 12), (96, .nop), (99, .return_)]
/-- OverInDinghy$Search.toldFor(II)I -/
def i101 : List xI := [(0, .iload 1), (1, .iconst 1), (2, .if_icmp .ne 13), (5, .iload 0), (6, .iconst 256), (9, .idiv), (10, .goto 32), (13, .iload 1), (14, .iconst 2), (15, .if_icmp .ne 28), (18, .iload 0), (19, .iconst 16), (21, .idiv), (22, .iconst 16), (24, .irem), (25, .goto 32), (28, .iload 0), (29, .iconst 16), (31, .irem), (32, .ireturn)]
/-- OverInDinghy$Search.isUpBehind(II)Z -/
def i102 : List xI := [(0, .aload 0), (1, .aload 0), (2, .getfield 195), (5, .iload 1), (6, .iload 2), (7, .iconst 4), (8, .idiv), (9, .invokevirtual 66185), (12, .aload 0), (13, .aload 0), (14, .getfield 196), (17, .iload 1), (18, .iload 2), (19, .iconst 4), (20, .irem), (21, .invokevirtual 66185), (24, .aload 0), (25, .checkcast 192), (28, .iload 1), (29, .aload 0), (30, .checkcast 193), (33, .invokevirtual 42436), (36, .aload 0), (37, .checkcast 192), (40, .checkcast 42), (43, .iload 1), (44, .iaload), (45, .ifCond .ne 52), (48, .iconst 1), (49, .goto 53), (52, .iconst 0), (53, .ireturn)]
/-- OverInDinghy$Search.send(III)V -/
def i103 : List xI := [(0, .aload 0), (1, .checkcast 192), (4, .iload 1), (5, .invokevirtual 35972), (8, .ifCond .eq 40), (11, .aload 0), (12, .checkcast 192), (15, .checkcast 49), (18, .iload 1), (19, .iload 3), (20, .ifCond .ne 38), (23, .aload 0), (24, .checkcast 192), (27, .iload 2), (28, .invokevirtual 36612), (31, .ifCond .eq 38), (34, .iconst 1), (35, .goto 39), (38, .iload 3), (39, .iastore), (40, .return_)]
/-- OverInDinghy$Search.ticks()I -/
def i104 : List xI := [(0, .aload 0), (1, .getfield 197), (4, .iconst 20), (6, .if_icmp .le 14), (9, .iconst (-1000000)), (11, .goto 18), (14, .aload 0), (15, .getfield 197), (18, .ireturn)]
/-- OverInDinghy.tries(II)J -/
def i105 : List xI := [(0, .aload 0), (1, .checkcast 226), (4, .iload 1), (5, .invokevirtual 35332), (8, .ifCond .eq 22), (11, .iload 2), (12, .iconst 1), (13, .if_icmp .lt 22), (16, .iload 2), (17, .iconst 60), (19, .if_icmp .le 26), (22, .goto_w (-9000000000000000001)), (25, .lreturn), (26, .aload 0), (27, .checkcast 226), (30, .checkcast 50), (33, .iload 1), (34, .iaload), (35, .aload 0), (36, .checkcast 226), (39, .iload 1), (40, .invokevirtual 51972), (43, .iload 2), (44, .imul), (45, .invokestatic 59648), (48, .i2l), (49, .lreturn)]
/-- OverInDinghy.airs(I)J -/
def i106 : List xI := [(0, .iload 1), (1, .iconst 1), (2, .if_icmp .lt 10), (5, .iload 1), (6, .iconst 4), (7, .if_icmp .le 16), (10, .goto_w (-9000000000000000001)), (13, .goto 21), (16, .iload 1), (17, .invokestatic 68544), (20, .i2l), (21, .lreturn)]
/-- OverInDinghy$Foretold.bestAirs(I)I -/
def i107 : List xI := [(0, .iconst 0), (1, .istore 1), (2, .iconst 0), (3, .istore 2), (4, .iload 2), (5, .iconst 9), (7, .if_icmp .gt 30), (10, .iload 2), (11, .iload 0), (12, .invokestatic 69248), (15, .ifCond .ne 24), (18, .iload 1), (19, .iconst 1), (20, .iload 2), (21, .ishl), (22, .ior), (23, .istore 1), (24, .iinc 2 1), (27, .goto 4), (30, .iload 1), (31, .ireturn)]
/-- OverInDinghy$Foretold.isBeaten(II)Z -/
def i108 : List xI := [(0, .iconst 0), (1, .istore 2), (2, .iload 2), (3, .iload 0), (4, .if_icmp .ge 28), (7, .iload 2), (8, .iload 1), (9, .invokestatic 69888), (12, .iload 0), (13, .iload 1), (14, .invokestatic 69888), (17, .if_icmp .gt 22), (20, .iconst 1), (21, .ireturn), (22, .iinc 2 1), (25, .goto 2), (28, .iconst 0), (29, .ireturn)]
/-- OverInDinghy$Foretold.bails(II)I -/
def i109 : List xI := [(0, .iconst 70), (2, .iconst 6), (4, .iload 0), (5, .imul), (6, .isub), (7, .iconst 5), (8, .iload 1), (9, .imul), (10, .iload 0), (11, .iadd), (12, .invokestatic 59648), (15, .ireturn)]
/-- OverInDinghy.first(IIII)J -/
def i110 : List xI := [(0, .aload 0), (1, .checkcast 226), (4, .invokevirtual 40388), (7, .ifCond .eq 14), (10, .goto_w (-9000000000000000002)), (13, .lreturn), (14, .iload 1), (15, .invokestatic 6464), (18, .ifCond .eq 48), (21, .iload 2), (22, .iconst 1), (23, .if_icmp .lt 48), (26, .iload 2), (27, .iconst 2), (28, .if_icmp .gt 48), (31, .iload 3), (32, .iconst 1), (33, .if_icmp .lt 48), (36, .iload 3), (37, .iconst 20), (39, .if_icmp .gt 48), (42, .iload 4), (44, .iconst (-1)), (45, .if_icmp .ge 52), (48, .goto_w (-9000000000000000001)), (51, .lreturn), (52, .aload 0), (53, .checkcast 224), (56, .iload 1), (57, .invokevirtual 9736), (60, .ifCond .eq 69), (63, .aload 0), (64, .iconst 1), (65, .invokevirtual 7178), (68, .lreturn), (69, .aload 0), (70, .checkcast 224), (73, .checkcast 161), (76, .iload 1), (77, .iaload), (78, .aload 0), (79, .checkcast 226), (82, .getfield 36), (85, .if_icmp .ge 94), (88, .aload 0), (89, .iconst 2), (90, .invokevirtual 7178), (93, .lreturn), (94, .aload 0), (95, .checkcast 224), (98, .iload 1), (99, .aload 0), (100, .checkcast 226), (103, .getfield 36), (106, .iconst 99), (108, .invokevirtual 71304), (111, .ifCond .ne 118), (114, .goto_w (-9000000000000000001)), (117, .lreturn), (118, .aload 0), (119, .checkcast 232), (122, .aload 0), (123, .checkcast 224), (126, .iload 1), (127, .aload 0), (128, .checkcast 226), (131, .getfield 36), (134, .iload 2), (135, .invokevirtual 72647), (138, .iload 4), (140, .iconst (-1)), (141, .if_icmp .ne 159), (144, .aload 0), (145, .aload 0), (146, .checkcast 232), (149, .iload 2), (150, .iload 3), (151, .invokevirtual 74439), (154, .i2l), (155, .invokevirtual 8458), (158, .lreturn), (159, .aload 0), (160, .iload 4), (162, .aload 0), (163, .checkcast 226), (166, .getfield 36), (169, .if_icmp .ge 186), (172, .aload 0), (173, .checkcast 232), (176, .checkcast 128), (179, .iload 4), (181, .iaload), (182, .i2l), (183, .goto 189), (186, .goto_w (-1000000)), (189, .invokevirtual 8458), (192, .lreturn)]
/-- OverInDinghy$Rows.within(III)Z -/
def i111 : List xI := [(0, .iconst 0), (1, .istore 4), (3, .iload 4), (5, .iload 2), (6, .if_icmp .ge 38), (9, .aload 0), (10, .iload 1), (11, .iload 4), (13, .invokevirtual 71880), (16, .ifCond .lt 30), (19, .aload 0), (20, .iload 1), (21, .iload 4), (23, .invokevirtual 71880), (26, .iload 3), (27, .if_icmp .le 32), (30, .iconst 0), (31, .ireturn), (32, .iinc 4 1), (35, .goto 3), (38, .iconst 1), (39, .ireturn)]
/-- OverInDinghy$Rows.item(II)I -/
def i112 : List xI := [(0, .aload 0), (1, .checkcast 162), (4, .iload 1), (5, .iconst 40), (7, .imul), (8, .iload 2), (9, .iadd), (10, .iaload), (11, .ireturn)]
/-- OverInDinghy$Rescue.plan(LOverInDinghy$Rows;III)V -/
def i113 : List xI := [(0, .aload 0), (1, .iload 3), (2, .putfield 130), (5, .iconst 0), (6, .istore 5), (8, .iload 5), (10, .aload 0), (11, .getfield 130), (14, .if_icmp .ge 43), (17, .aload 0), (18, .checkcast 129), (21, .iload 5), (23, .aload 1), (24, .iload 2), (25, .iload 5), (27, .invokevirtual 71880), (30, .iastore), (31, .aload 0), (32, .iload 5), (34, .invokevirtual 73095), (37, .iinc 5 1), (40, .goto 8), (43, .iconst 0), (44, .istore 5), (46, .iload 4), (48, .iconst 2), (49, .if_icmp .ne 75), (52, .iload 5), (54, .iconst 1), (55, .iadd), (56, .aload 0), (57, .getfield 130), (60, .if_icmp .ge 75), (63, .aload 0), (64, .iload 5), (66, .invokevirtual 73735), (69, .iinc 5 2), (72, .goto 46), (75, .return_)]
/-- OverInDinghy$Rescue.insert(I)V -/
def i114 : List xI := [(0, .iload 1), (1, .istore 2), (2, .iload 2), (3, .ifCond .le 48), (6, .aload 0), (7, .checkcast 129), (10, .aload 0), (11, .checkcast 128), (14, .iload 2), (15, .iconst 1), (16, .isub), (17, .iaload), (18, .iaload), (19, .aload 0), (20, .checkcast 129), (23, .iload 1), (24, .iaload), (25, .if_icmp .ge 48), (28, .aload 0), (29, .checkcast 128), (32, .iload 2), (33, .aload 0), (34, .checkcast 128), (37, .iload 2), (38, .iconst 1), (39, .isub), (40, .iaload), (41, .iastore), (42, .iinc 2 (-1)), (45, .goto 2), (48, .aload 0), (49, .checkcast 128), (52, .iload 2), (53, .iload 1), (54, .iastore), (55, .return_)]
/-- OverInDinghy$Rescue.sortPair(I)V -/
def i115 : List xI := [(0, .aload 0), (1, .checkcast 128), (4, .iload 1), (5, .iaload), (6, .aload 0), (7, .checkcast 128), (10, .iload 1), (11, .iconst 1), (12, .iadd), (13, .iaload), (14, .if_icmp .le 47), (17, .aload 0), (18, .checkcast 128), (21, .iload 1), (22, .iaload), (23, .istore 2), (24, .aload 0), (25, .checkcast 128), (28, .iload 1), (29, .aload 0), (30, .checkcast 128), (33, .iload 1), (34, .iconst 1), (35, .iadd), (36, .iaload), (37, .iastore), (38, .aload 0), (39, .checkcast 128), (42, .iload 1), (43, .iconst 1), (44, .iadd), (45, .iload 2), (46, .iastore), (47, .return_)]
/-- OverInDinghy$Rescue.waited(II)I -/
def i116 : List xI := [(0, .iconst 0), (1, .istore 3), (2, .iconst 0), (3, .istore 4), (5, .iload 4), (7, .aload 0), (8, .getfield 130), (11, .if_icmp .ge 58), (14, .iload 1), (15, .iconst 2), (16, .if_icmp .ne 26), (19, .iload 4), (21, .iconst 2), (22, .idiv), (23, .goto 28), (26, .iload 4), (28, .istore 5), (30, .iload 3), (31, .aload 0), (32, .checkcast 129), (35, .aload 0), (36, .checkcast 128), (39, .iload 4), (41, .iaload), (42, .iaload), (43, .iload 2), (44, .imul), (45, .iload 5), (47, .iconst 1), (48, .iadd), (49, .imul), (50, .iadd), (51, .istore 3), (52, .iinc 4 1), (55, .goto 5), (58, .iload 3), (59, .ireturn)]
/-- OverInDinghy.over(IIII)J -/
def i117 : List xI := [(0, .iload 1), (1, .iload 3), (2, .invokestatic 75648), (5, .ifCond .eq 29), (8, .iload 2), (9, .ifCond .lt 29), (12, .iload 2), (13, .iconst 100), (15, .if_icmp .gt 29), (18, .iload 4), (20, .ifCond .lt 29), (23, .iload 4), (25, .iconst 1), (26, .if_icmp .le 33), (29, .goto_w (-9000000000000000001)), (32, .lreturn), (33, .iload 1), (34, .iload 2), (35, .iload 3), (36, .invokestatic 76352), (39, .lstore 5), (41, .goto_w 100), (44, .iload 1), (45, .invokestatic 77568), (48, .lstore 7), (50, .lload 5), (52, .lload 7), (54, .invokestatic 78208), (57, .lstore 9), (59, .lload 9), (61, .goto_w 1), (62, .lcmp), (63, .ifCond .ge 70), (66, .goto_w (-9000000000000000001)), (69, .lreturn), (70, .iload 4), (72, .ifCond .ne 83), (75, .lload 5), (77, .lload 9), (79, .ldiv), (80, .goto 88), (83, .lload 7), (85, .lload 9), (87, .ldiv), (88, .lreturn)]
/-- OverInDinghy$Odds.areBoats(II)Z -/
def i118 : List xI := [(0, .iload 0), (1, .iconst 1), (2, .if_icmp .lt 25), (5, .iload 0), (6, .iconst 7), (8, .if_icmp .gt 25), (11, .iload 1), (12, .ifCond .lt 25), (15, .iload 1), (16, .iconst 7), (18, .if_icmp .gt 25), (21, .iconst 1), (22, .goto 26), (25, .iconst 0), (26, .ireturn)]
/-- OverInDinghy$Odds.above(III)J -/
def i119 : List xI := [(0, .goto_w 0), (1, .lstore 3), (2, .iload 2), (3, .iconst 1), (4, .iadd), (5, .istore 5), (7, .iload 5), (9, .iload 0), (10, .if_icmp .gt 49), (13, .lload 3), (14, .iload 0), (15, .iload 5), (17, .invokestatic 76928), (20, .iload 1), (21, .i2l), (22, .iload 5), (24, .invokestatic 77568), (27, .lmul), (28, .iconst 100), (30, .iload 1), (31, .isub), (32, .i2l), (33, .iload 0), (34, .iload 5), (36, .isub), (37, .invokestatic 77568), (40, .lmul), (41, .ladd), (42, .lstore 3), (43, .iinc 5 1), (46, .goto 7), (49, .lload 3), (50, .lreturn)]
/-- OverInDinghy$Odds.ways(II)J -/
def i120 : List xI := [(0, .goto_w 1), (1, .lstore 2), (2, .iconst 1), (3, .istore 4), (5, .iload 4), (7, .iload 1), (8, .if_icmp .gt 31), (11, .lload 2), (12, .iload 0), (13, .iload 4), (15, .isub), (16, .iconst 1), (17, .iadd), (18, .i2l), (19, .lmul), (20, .iload 4), (22, .i2l), (23, .ldiv), (24, .lstore 2), (25, .iinc 4 1), (28, .goto 5), (31, .lload 2), (32, .lreturn)]
/-- OverInDinghy$Odds.power(JI)J -/
def i121 : List xI := [(0, .goto_w 1), (1, .lstore 3), (2, .iconst 0), (3, .istore 5), (5, .iload 5), (7, .iload 2), (8, .if_icmp .ge 21), (11, .lload 3), (12, .lload 0), (13, .lmul), (14, .lstore 3), (15, .iinc 5 1), (18, .goto 5), (21, .lload 3), (22, .lreturn)]
/-- OverInDinghy$Odds.divisor(JJ)J -/
def i122 : List xI := [(0, .lload 0), (1, .lstore 4), (3, .lload 2), (4, .lstore 6), (6, .iconst 0), (7, .istore 8), (9, .iload 8), (11, .iconst 200), (14, .if_icmp .ge 45), (17, .lload 6), (19, .goto_w 0), (20, .lcmp), (21, .ifCond .eq 45), (24, .lload 4), (26, .lload 6), (28, .lrem), (29, .lstore 9), (31, .lload 6), (33, .lstore 4), (35, .lload 9), (37, .lstore 6), (39, .iinc 8 1), (42, .goto 9), (45, .lload 4), (47, .lreturn)]
/-- OverInDinghy.staysIn(III)J -/
def i123 : List xI := [(0, .iload 1), (1, .iload 2), (2, .invokestatic 75648), (5, .ifCond .eq 19), (8, .iload 3), (9, .ifCond .lt 19), (12, .iload 3), (13, .iconst 999), (16, .if_icmp .le 23), (19, .goto_w (-9000000000000000001)), (22, .lreturn), (23, .iconst 0), (24, .istore 4), (26, .iload 4), (28, .iconst 40), (30, .if_icmp .gt 68), (33, .iload 1), (34, .iload 4), (36, .iload 2), (37, .invokestatic 76352), (40, .goto_w 1000), (43, .lmul), (44, .iload 3), (45, .i2l), (46, .goto_w 100), (49, .iload 1), (50, .invokestatic 77568), (53, .lmul), (54, .lcmp), (55, .ifCond .le 62), (58, .iload 4), (60, .i2l), (61, .lreturn), (62, .iinc 4 1), (65, .goto 26), (68, .goto_w (-1000000)), (71, .lreturn)]
/-- OverInDinghy.heads(II)J -/
def i124 : List xI := [(0, .aload 0), (1, .checkcast 226), (4, .invokevirtual 40388), (7, .ifCond .eq 14), (10, .goto_w (-9000000000000000002)), (13, .lreturn), (14, .iload 1), (15, .invokestatic 6464), (18, .ifCond .eq 30), (21, .iload 2), (22, .ifCond .lt 30), (25, .iload 2), (26, .iconst 2), (27, .if_icmp .le 34), (30, .goto_w (-9000000000000000001)), (33, .lreturn), (34, .aload 0), (35, .checkcast 224), (38, .iload 1), (39, .invokevirtual 9736), (42, .ifCond .eq 51), (45, .aload 0), (46, .iconst 1), (47, .invokevirtual 7178), (50, .lreturn), (51, .aload 0), (52, .checkcast 224), (55, .checkcast 161), (58, .iload 1), (59, .iaload), (60, .iconst 2), (61, .aload 0), (62, .checkcast 226), (65, .getfield 36), (68, .imul), (69, .if_icmp .ge 78), (72, .aload 0), (73, .iconst 2), (74, .invokevirtual 7178), (77, .lreturn), (78, .aload 0), (79, .checkcast 224), (82, .iload 1), (83, .iconst 2), (84, .aload 0), (85, .checkcast 226), (88, .getfield 36), (91, .imul), (92, .iconst 9), (94, .invokevirtual 71304), (97, .ifCond .ne 104), (100, .goto_w (-9000000000000000001)), (103, .lreturn), (104, .aload 0), (105, .aload 0), (106, .checkcast 224), (109, .iload 1), (110, .aload 0), (111, .checkcast 226), (114, .getfield 36), (117, .iload 2), (118, .invokestatic 80256), (121, .i2l), (122, .invokevirtual 8458), (125, .lreturn)]
/-- OverInDinghy$Foretold.balance(LOverInDinghy$Rows;III)I -/
def i125 : List xI := [(0, .iconst 0), (1, .istore 4), (3, .iconst 0), (4, .istore 5), (6, .iconst 0), (7, .istore 6), (9, .iload 6), (11, .iload 2), (12, .if_icmp .ge 68), (15, .aload 0), (16, .iload 1), (17, .iconst 2), (18, .iload 6), (20, .imul), (21, .iconst 1), (22, .iadd), (23, .invokevirtual 71880), (26, .aload 0), (27, .iload 1), (28, .iconst 2), (29, .iload 6), (31, .imul), (32, .invokevirtual 71880), (35, .isub), (36, .istore 7), (38, .iload 7), (40, .ifCond .ge 55), (43, .iload 4), (45, .iconst 1), (46, .iload 6), (48, .ishl), (49, .ior), (50, .istore 4), (52, .goto 62), (55, .iload 5), (57, .iload 7), (59, .iadd), (60, .istore 5), (62, .iinc 6 1), (65, .goto 9), (68, .iload 3), (69, .ifCond .ne 75), (72, .iload 4), (74, .ireturn), (75, .iload 3), (76, .iconst 1), (77, .if_icmp .ne 83), (80, .iload 5), (82, .ireturn), (83, .iload 4), (85, .ifCond .ne 97), (88, .iload 5), (90, .ifCond .ne 97), (93, .iconst 1), (94, .goto 98), (97, .iconst 0), (98, .ireturn)]
/-- OverInDinghy.image(I)J -/
def i126 : List xI := [(0, .iload 1), (1, .ifCond .lt 9), (4, .iload 1), (5, .iconst 1), (6, .if_icmp .le 13), (9, .goto_w (-9000000000000000001)), (12, .lreturn), (13, .aload 0), (14, .checkcast 226), (17, .invokevirtual 40388), (20, .ifCond .eq 27), (23, .goto_w (-9000000000000000002)), (26, .lreturn), (27, .aload 0), (28, .iload 1), (29, .invokevirtual 81418), (32, .aload 0), (33, .checkcast 226), (36, .invokevirtual 33412), (39, .goto_w 1), (40, .lreturn)]
/-- OverInDinghy.imageOf(I)LOverInDinghy$Club; -/
def i127 : List xI := [(0, .iload 1), (1, .ifCond .ne 11), (4, .aload 0), (5, .checkcast 228), (8, .goto 15), (11, .aload 0), (12, .checkcast 229), (15, .areturn)]
/-- OverInDinghy.restore(I)J -/
def i128 : List xI := [(0, .iload 1), (1, .ifCond .lt 9), (4, .iload 1), (5, .iconst 1), (6, .if_icmp .le 13), (9, .goto_w (-9000000000000000001)), (12, .lreturn), (13, .aload 0), (14, .iload 1), (15, .invokevirtual 81418), (18, .invokevirtual 40388), (21, .ifCond .eq 28), (24, .goto_w (-9000000000000000002)), (27, .lreturn), (28, .aload 0), (29, .checkcast 226), (32, .aload 0), (33, .iload 1), (34, .invokevirtual 81418), (37, .invokevirtual 33412), (40, .goto_w 1), (41, .lreturn)]
/-- OverInDinghy.kind(I)J -/
def i129 : List xI := [(0, .aload 0), (1, .checkcast 226), (4, .iload 1), (5, .invokevirtual 37892), (8, .ifCond .eq 27), (11, .aload 0), (12, .checkcast 226), (15, .checkcast 42), (18, .iload 1), (19, .iaload), (20, .invokestatic 83264), (23, .i2l), (24, .goto 30), (27, .goto_w (-9000000000000000001)), (30, .lreturn)]
/-- OverInDinghy$Asks.kindOf(I)I -/
def i130 : List xI := [(0, .iload 0), (1, .iconst 1), (2, .iadd), (3, .ireturn)]
/-- OverInDinghy.as(II)J -/
def i131 : List xI := [(0, .aload 0), (1, .checkcast 226), (4, .iload 1), (5, .invokevirtual 37892), (8, .ifCond .eq 18), (11, .iload 2), (12, .invokestatic 84544), (15, .ifCond .ne 22), (18, .goto_w (-9000000000000000001)), (21, .lreturn), (22, .aload 0), (23, .checkcast 226), (26, .checkcast 42), (29, .iload 1), (30, .iaload), (31, .invokestatic 83264), (34, .iload 2), (35, .invokestatic 85248), (38, .ifCond .eq 50), (41, .aload 0), (42, .iload 1), (43, .i2l), (44, .invokevirtual 8458), (47, .goto 55), (50, .aload 0), (51, .iconst 3), (52, .invokevirtual 7178), (55, .lreturn)]
/-- OverInDinghy$Asks.isKind(I)Z -/
def i132 : List xI := [(0, .iload 0), (1, .ifCond .lt 14), (4, .iload 0), (5, .iconst 6), (7, .if_icmp .ge 14), (10, .iconst 1), (11, .goto 15), (14, .iconst 0), (15, .ireturn)]
/-- OverInDinghy$Asks.is(II)Z -/
def i133 : List xI := [(0, .iload 0), (1, .istore 2), (2, .iconst 0), (3, .istore 3), (4, .iload 3), (5, .iconst 6), (7, .if_icmp .ge 36), (10, .iload 2), (11, .invokestatic 84544), (14, .ifCond .eq 36), (17, .iload 2), (18, .iload 1), (19, .if_icmp .ne 24), (22, .iconst 1), (23, .ireturn), (24, .getstatic 1020), (27, .iload 2), (28, .aaload), (29, .istore 2), (30, .iinc 3 1), (33, .goto 4), (36, .iconst 0), (37, .ireturn)]
/-- OverInDinghy.ask(II)J -/
def i134 : List xI := [(0, .aload 0), (1, .checkcast 226), (4, .iload 1), (5, .invokevirtual 37892), (8, .ifCond .eq 20), (11, .iload 2), (12, .ifCond .lt 20), (15, .iload 2), (16, .iconst 1), (17, .if_icmp .le 24), (20, .goto_w (-9000000000000000001)), (23, .lreturn), (24, .aload 0), (25, .checkcast 233), (28, .aload 0), (29, .checkcast 226), (32, .iload 1), (33, .iload 2), (34, .invokevirtual 86659), (37, .lreturn)]
/-- OverInDinghy$Asks.answer(LOverInDinghy$Club;II)J -/
def i135 : List xI := [(0, .aload 0), (1, .iconst 0), (2, .putfield 1), (5, .aload 0), (6, .aload 1), (7, .checkcast 42), (10, .iload 2), (11, .iaload), (12, .invokestatic 83264), (15, .iload 3), (16, .invokestatic 87168), (19, .aload 1), (20, .iload 2), (21, .iconst 0), (22, .invokestatic 155840), (25, .lreturn)]
/-- OverInDinghy$Asks.bodyFor(II)I -/
def i136 : List xI := [(0, .iload 0), (1, .istore 2), (2, .iconst 0), (3, .istore 3), (4, .iload 3), (5, .iconst 6), (7, .if_icmp .ge 56), (10, .iload 2), (11, .invokestatic 84544), (14, .ifCond .eq 56), (17, .iload 1), (18, .ifCond .ne 29), (21, .getstatic 1021), (24, .iload 2), (25, .aaload), (26, .goto 34), (29, .getstatic 1022), (32, .iload 2), (33, .aaload), (34, .istore 4), (36, .iload 4), (38, .ifCond .eq 44), (41, .iload 4), (43, .ireturn), (44, .getstatic 1020), (47, .iload 2), (48, .aaload), (49, .istore 2), (50, .iinc 3 1), (53, .goto 4), (56, .iconst 0), (57, .ireturn)]
/-- OverInDinghy$Asks.leave(I)V -/
def i138 : List xI := [(0, .aload 0), (1, .getfield 1), (4, .iconst 16), (6, .if_icmp .ge 29), (9, .aload 0), (10, .checkcast 0), (13, .aload 0), (14, .getfield 1), (17, .iload 1), (18, .iastore), (19, .aload 0), (20, .dup), (21, .getfield 1), (24, .iconst 1), (25, .iadd), (26, .putfield 1), (29, .return_)]
/-- OverInDinghy.trace(I)I -/
def i139 : List xI := [(0, .iload 1), (1, .ifCond .lt 15), (4, .iload 1), (5, .aload 0), (6, .checkcast 233), (9, .getfield 1), (12, .if_icmp .lt 21), (15, .iconst (-1000000)), (18, .goto 30), (21, .aload 0), (22, .checkcast 233), (25, .checkcast 0), (28, .iload 1), (29, .iaload), (30, .ireturn)]
/-- OverInDinghy.count(I)J -/
def i140 : List xI := [(0, .iload 1), (1, .tableswitch 120 0 7 #[48, 57, 66, 75, 84, 93, 102, 111]), (48, .aload 0), (49, .checkcast 224), (52, .invokevirtual 90312), (55, .i2l), (56, .lreturn), (57, .aload 0), (58, .checkcast 226), (61, .getfield 36), (64, .i2l), (65, .lreturn), (66, .aload 0), (67, .checkcast 226), (70, .getfield 37), (73, .i2l), (74, .lreturn), (75, .aload 0), (76, .checkcast 226), (79, .getfield 35), (82, .i2l), (83, .lreturn), (84, .aload 0), (85, .checkcast 225), (88, .getfield 97), (91, .i2l), (92, .lreturn), (93, .aload 0), (94, .checkcast 226), (97, .invokevirtual 90948), (100, .i2l), (101, .lreturn), (102, .aload 0), (103, .checkcast 226), (106, .invokevirtual 91588), (109, .i2l), (110, .lreturn), (111, .aload 0), (112, .checkcast 226), (115, .getfield 33), (118, .i2l), (119, .lreturn), (120, .goto_w (-9000000000000000001)), (123, .lreturn)]
/-- OverInDinghy$Rows.present()I -/
def i141 : List xI := [(0, .iconst 0), (1, .istore 1), (2, .iconst 0), (3, .istore 2), (4, .iload 2), (5, .iconst 8), (7, .if_icmp .ge 32), (10, .iload 1), (11, .aload 0), (12, .iload 2), (13, .invokevirtual 9736), (16, .ifCond .eq 23), (19, .iconst 0), (20, .goto 24), (23, .iconst 1), (24, .iadd), (25, .istore 1), (26, .iinc 2 1), (29, .goto 4), (32, .iload 1), (33, .ireturn)]
/-- OverInDinghy$Club.handsWhoCannot()I -/
def i142 : List xI := [(0, .iconst 0), (1, .istore 1), (2, .iconst 0), (3, .istore 2), (4, .iload 2), (5, .aload 0), (6, .getfield 37), (9, .if_icmp .ge 34), (12, .iload 1), (13, .aload 0), (14, .iload 2), (15, .invokevirtual 35972), (18, .ifCond .eq 25), (21, .iconst 0), (22, .goto 26), (25, .iconst 1), (26, .iadd), (27, .istore 1), (28, .iinc 2 1), (31, .goto 4), (34, .iload 1), (35, .ireturn)]
/-- OverInDinghy$Club.boatsOver()I -/
def i143 : List xI := [(0, .iconst 0), (1, .istore 1), (2, .iconst 0), (3, .istore 2), (4, .iload 2), (5, .aload 0), (6, .getfield 36), (9, .if_icmp .ge 34), (12, .iload 1), (13, .aload 0), (14, .iload 2), (15, .invokevirtual 36612), (18, .ifCond .eq 25), (21, .iconst 1), (22, .goto 26), (25, .iconst 0), (26, .iadd), (27, .istore 1), (28, .iinc 2 1), (31, .goto 4), (34, .iload 1), (35, .ireturn)]
/-- OverInDinghy.status()I -/
def i144 : List xI := [(0, .aload 0), (1, .getfield 235), (4, .ireturn)]
/-- OverInDinghyModel.row(III)J -/
def i146 : List xI := [(0, .aload 0), (1, .iconst 0), (2, .putfield 256), (5, .iload 1), (6, .invokestatic 94144), (9, .ifCond .eq 30), (12, .iload 2), (13, .i2l), (14, .goto_w 0), (15, .goto_w 2), (18, .invokestatic 94912), (21, .ifCond .eq 30), (24, .iload 3), (25, .iconst 40), (27, .if_icmp .le 34), (30, .goto_w (-9000000000000000001)), (33, .lreturn), (34, .aload 0), (35, .iconst 0), (36, .putfield 257), (39, .iload 3), (40, .ifCond .ge 49), (43, .aload 0), (44, .iconst 4), (45, .invokevirtual 95499), (48, .lreturn), (49, .aload 0), (50, .checkcast 258), (53, .iload 1), (54, .iload 2), (55, .iastore), (56, .aload 0), (57, .checkcast 259), (60, .iload 1), (61, .iload 3), (62, .iastore), (63, .iconst 0), (64, .istore 4), (66, .iload 4), (68, .iconst 40), (70, .if_icmp .ge 92), (73, .aload 0), (74, .checkcast 260), (77, .iconst 40), (79, .iload 1), (80, .imul), (81, .iload 4), (83, .iadd), (84, .iconst 0), (85, .iastore), (86, .iinc 4 1), (89, .goto 66), (92, .iload 3), (93, .i2l), (94, .lreturn)]
/-- OverInDinghyModel.isRow(I)Z -/
def i147 : List xI := [(0, .iload 0), (1, .i2l), (2, .goto_w 0), (3, .goto_w 7), (6, .invokestatic 94912), (9, .ireturn)]
/-- OverInDinghyModel.in(JJJ)Z -/
def i148 : List xI := [(0, .lload 0), (1, .lload 2), (2, .lcmp), (3, .ifCond .lt 17), (6, .lload 0), (7, .lload 4), (9, .lcmp), (10, .ifCond .gt 17), (13, .iconst 1), (14, .goto 18), (17, .iconst 0), (18, .ireturn)]
/-- OverInDinghyModel.finding(I)J -/
def i149 : List xI := [(0, .aload 0), (1, .iload 1), (2, .putfield 257), (5, .goto_w (-9000000000000000010)), (8, .iload 1), (9, .i2l), (10, .lsub), (11, .lreturn)]
/-- OverInDinghyModel.set(III)J -/
def i150 : List xI := [(0, .aload 0), (1, .iconst 0), (2, .putfield 256), (5, .iload 1), (6, .invokestatic 94144), (9, .ifCond .ne 16), (12, .goto_w (-9000000000000000001)), (15, .lreturn), (16, .aload 0), (17, .iconst 0), (18, .putfield 257), (21, .aload 0), (22, .checkcast 258), (25, .iload 1), (26, .iaload), (27, .ifCond .ge 36), (30, .aload 0), (31, .iconst 1), (32, .invokevirtual 95499), (35, .lreturn), (36, .iload 2), (37, .i2l), (38, .goto_w 0), (39, .aload 0), (40, .checkcast 259), (43, .iload 1), (44, .iaload), (45, .iconst 1), (46, .isub), (47, .i2l), (48, .invokestatic 94912), (51, .ifCond .ne 60), (54, .aload 0), (55, .iconst 2), (56, .invokevirtual 95499), (59, .lreturn), (60, .aload 0), (61, .checkcast 260), (64, .iconst 40), (66, .iload 1), (67, .imul), (68, .iload 2), (69, .iadd), (70, .aload 0), (71, .checkcast 258), (74, .iload 1), (75, .iaload), (76, .ifCond .ne 84), (79, .iload 3), (80, .i2b), (81, .goto 100), (84, .aload 0), (85, .checkcast 258), (88, .iload 1), (89, .iaload), (90, .iconst 1), (91, .if_icmp .ne 99), (94, .iload 3), (95, .i2s), (96, .goto 100), (99, .iload 3), (100, .iastore), (101, .aload 0), (102, .checkcast 260), (105, .iconst 40), (107, .iload 1), (108, .imul), (109, .iload 2), (110, .iadd), (111, .iaload), (112, .i2l), (113, .lreturn)]
/-- OverInDinghyModel.copy(IIIII)J -/
def i151 : List xI := [(0, .aload 0), (1, .iconst 0), (2, .putfield 256), (5, .iload 1), (6, .invokestatic 94144), (9, .ifCond .eq 19), (12, .iload 3), (13, .invokestatic 94144), (16, .ifCond .ne 23), (19, .goto_w (-9000000000000000001)), (22, .lreturn), (23, .aload 0), (24, .iconst 0), (25, .putfield 257), (28, .aload 0), (29, .checkcast 258), (32, .iload 1), (33, .iaload), (34, .ifCond .lt 46), (37, .aload 0), (38, .checkcast 258), (41, .iload 3), (42, .iaload), (43, .ifCond .ge 52), (46, .aload 0), (47, .iconst 1), (48, .invokevirtual 95499), (51, .lreturn), (52, .aload 0), (53, .checkcast 258), (56, .iload 1), (57, .iaload), (58, .aload 0), (59, .checkcast 258), (62, .iload 3), (63, .iaload), (64, .if_icmp .eq 73), (67, .aload 0), (68, .iconst 5), (69, .invokevirtual 95499), (72, .lreturn), (73, .iload 2), (74, .ifCond .lt 122), (77, .iload 4), (79, .ifCond .lt 122), (82, .iload 5), (84, .ifCond .lt 122), (87, .iload 2), (88, .i2l), (89, .iload 5), (91, .i2l), (92, .ladd), (93, .aload 0), (94, .checkcast 259), (97, .iload 1), (98, .iaload), (99, .i2l), (100, .lcmp), (101, .ifCond .gt 122), (104, .iload 4), (106, .i2l), (107, .iload 5), (109, .i2l), (110, .ladd), (111, .aload 0), (112, .checkcast 259), (115, .iload 3), (116, .iaload), (117, .i2l), (118, .lcmp), (119, .ifCond .le 128), (122, .aload 0), (123, .iconst 2), (124, .invokevirtual 95499), (127, .lreturn), (128, .iload 2), (129, .iload 4), (131, .if_icmp .lt 138), (134, .iconst 1), (135, .goto 139), (138, .iconst 0), (139, .istore 6), (141, .iconst 0), (142, .istore 7), (144, .iload 7), (146, .iload 5), (148, .if_icmp .ge 205), (151, .iload 6), (153, .ifCond .eq 161), (156, .iload 7), (158, .goto 168), (161, .iload 5), (163, .iconst 1), (164, .isub), (165, .iload 7), (167, .isub), (168, .istore 8), (170, .aload 0), (171, .checkcast 260), (174, .iconst 40), (176, .iload 3), (177, .imul), (178, .iload 4), (180, .iadd), (181, .iload 8), (183, .iadd), (184, .aload 0), (185, .checkcast 260), (188, .iconst 40), (190, .iload 1), (191, .imul), (192, .iload 2), (193, .iadd), (194, .iload 8), (196, .iadd), (197, .iaload), (198, .iastore), (199, .iinc 7 1), (202, .goto 144), (205, .iload 5), (207, .i2l), (208, .lreturn)]
/-- OverInDinghyModel.drop(I)J -/
def i152 : List xI := [(0, .aload 0), (1, .iconst 0), (2, .putfield 256), (5, .iload 1), (6, .invokestatic 94144), (9, .ifCond .ne 16), (12, .goto_w (-9000000000000000001)), (15, .lreturn), (16, .aload 0), (17, .iconst 0), (18, .putfield 257), (21, .aload 0), (22, .checkcast 258), (25, .iload 1), (26, .iaload), (27, .ifCond .ge 36), (30, .aload 0), (31, .iconst 1), (32, .invokevirtual 95499), (35, .lreturn), (36, .aload 0), (37, .checkcast 258), (40, .iload 1), (41, .iconst (-1)), (42, .iastore), (43, .aload 0), (44, .checkcast 259), (47, .iload 1), (48, .iaload), (49, .i2l), (50, .lreturn)]
/-- OverInDinghyModel.feed(JI)J -/
def i153 : List xI := [(0, .aload 0), (1, .iconst 0), (2, .putfield 256), (5, .iload 3), (6, .i2l), (7, .goto_w 1), (8, .goto_w 8), (11, .invokestatic 94912), (14, .ifCond .ne 21), (17, .goto_w (-9000000000000000001)), (20, .lreturn), (21, .aload 0), (22, .getfield 266), (25, .iload 3), (26, .iadd), (27, .iconst 400), (30, .if_icmp .le 37), (33, .goto_w (-9000000000000000003)), (36, .lreturn), (37, .iload 3), (38, .iconst 1), (39, .isub), (40, .istore 4), (42, .iload 4), (44, .ifCond .lt 84), (47, .aload 0), (48, .checkcast 265), (51, .aload 0), (52, .getfield 266), (55, .lload 1), (56, .iconst 8), (58, .iload 4), (60, .imul), (61, .lshr), (62, .goto_w 255), (65, .land), (66, .l2i), (67, .iastore), (68, .aload 0), (69, .dup), (70, .getfield 266), (73, .iconst 1), (74, .iadd), (75, .putfield 266), (78, .iinc 4 (-1)), (81, .goto 42), (84, .aload 0), (85, .getfield 266), (88, .i2l), (89, .lreturn)]
/-- OverInDinghyModel.club()J -/
def i154 : List xI := [(0, .aload 0), (1, .iconst 0), (2, .putfield 256), (5, .aload 0), (6, .aload 0), (7, .getfield 266), (10, .putfield 268), (13, .aload 0), (14, .iconst 0), (15, .putfield 266), (18, .aload 0), (19, .iconst 0), (20, .putfield 269), (23, .aload 0), (24, .iconst 0), (25, .putfield 273), (28, .iconst 0), (29, .istore 1), (30, .iload 1), (31, .iconst 65), (33, .if_icmp .ge 49), (36, .aload 0), (37, .checkcast 262), (40, .iload 1), (41, .iconst 0), (42, .iastore), (43, .iinc 1 1), (46, .goto 30), (49, .aload 0), (50, .invokevirtual 99275), (53, .aload 0), (54, .invokevirtual 101835), (57, .aload 0), (58, .invokevirtual 102475), (61, .goto_w 1651466612), (64, .lcmp), (65, .ifCond .eq 73), (68, .aload 0), (69, .iconst 1), (70, .invokevirtual 103819), (73, .aload 0), (74, .invokevirtual 102475), (77, .goto_w 1651466612), (80, .lcmp), (81, .ifCond .ne 91), (84, .aload 0), (85, .invokevirtual 106315), (88, .goto 73), (91, .aload 0), (92, .invokevirtual 102475), (95, .goto_w 1751215716), (98, .lcmp), (99, .ifCond .ne 109), (102, .aload 0), (103, .invokevirtual 107595), (106, .goto 91), (109, .aload 0), (110, .getfield 273), (113, .ifCond .ne 129), (116, .aload 0), (117, .getfield 270), (120, .iconst 1), (121, .if_icmp .eq 129), (124, .aload 0), (125, .iconst 1), (126, .invokevirtual 103819), (129, .aload 0), (130, .getfield 273), (133, .ifCond .le 154), (136, .aload 0), (137, .aload 0), (138, .getfield 273), (141, .putfield 267), (144, .goto_w (-9000000000000000100)), (147, .aload 0), (148, .getfield 274), (151, .i2l), (152, .lsub), (153, .lreturn), (154, .aload 0), (155, .iconst 1), (156, .putstatic 263), (159, .iconst 0), (160, .istore 1), (161, .iload 1), (162, .iconst 65), (164, .if_icmp .ge 185), (167, .aload 0), (168, .checkcast 261), (171, .iload 1), (172, .aload 0), (173, .checkcast 262), (176, .iload 1), (177, .iaload), (178, .iastore), (179, .iinc 1 1), (182, .goto 161), (185, .iconst 0), (186, .istore 1), (187, .iload 1), (188, .iconst 49), (190, .if_icmp .ge 206), (193, .aload 0), (194, .checkcast 264), (197, .iload 1), (198, .iconst 0), (199, .iastore), (200, .iinc 1 1), (203, .goto 187), (206, .iconst 0), (207, .istore 1), (208, .iload 1), (209, .iconst 12), (211, .if_icmp .ge 236), (214, .aload 0), (215, .checkcast 264), (218, .iconst 24), (220, .iconst 2), (221, .iload 1), (222, .imul), (223, .iadd), (224, .iconst 1), (225, .iadd), (226, .iconst 1000), (229, .iastore), (230, .iinc 1 1), (233, .goto 208), (236, .aload 0), (237, .checkcast 261), (240, .iconst 3), (241, .iaload), (242, .i2l), (243, .lreturn)]
/-- OverInDinghyModel.next()V -/
def i155 : List xI := [(0, .aload 0), (1, .aload 0), (2, .getfield 269), (5, .invokevirtual 99979), (8, .iconst 32), (10, .if_icmp .eq 26), (13, .aload 0), (14, .aload 0), (15, .getfield 269), (18, .invokevirtual 99979), (21, .iconst 10), (23, .if_icmp .ne 39), (26, .aload 0), (27, .dup), (28, .getfield 269), (31, .iconst 1), (32, .iadd), (33, .putfield 269), (36, .goto 0), (39, .aload 0), (40, .aload 0), (41, .getfield 269), (44, .putfield 271), (47, .aload 0), (48, .aload 0), (49, .getfield 269), (52, .invokevirtual 99979), (55, .istore 1), (56, .iload 1), (57, .iconst (-1000000)), (59, .if_icmp .ne 70), (62, .aload 0), (63, .iconst 1), (64, .putfield 270), (67, .goto 196), (70, .iload 1), (71, .invokestatic 100544), (74, .ifCond .eq 112), (77, .aload 0), (78, .aload 0), (79, .getfield 269), (82, .invokevirtual 99979), (85, .invokestatic 100544), (88, .ifCond .eq 104), (91, .aload 0), (92, .dup), (93, .getfield 269), (96, .iconst 1), (97, .iadd), (98, .putfield 269), (101, .goto 77), (104, .aload 0), (105, .iconst 2), (106, .putfield 270), (109, .goto 196), (112, .iload 1), (113, .invokestatic 101184), (116, .ifCond .eq 171), (119, .aload 0), (120, .aload 0), (121, .getfield 269), (124, .invokevirtual 99979), (127, .invokestatic 101184), (130, .ifCond .eq 146), (133, .aload 0), (134, .dup), (135, .getfield 269), (138, .iconst 1), (139, .iadd), (140, .putfield 269), (143, .goto 119), (146, .aload 0), (147, .aload 0), (148, .getfield 269), (151, .aload 0), (152, .getfield 271), (155, .isub), (156, .iconst 3), (157, .if_icmp .le 164), (160, .iconst 0), (161, .goto 165), (164, .iconst 3), (165, .putfield 270), (168, .goto 196), (171, .aload 0), (172, .dup), (173, .getfield 269), (176, .iconst 1), (177, .iadd), (178, .putfield 269), (181, .aload 0), (182, .iload 1), (183, .iconst 59), (185, .if_icmp .ne 192), (188, .iconst 4), (189, .goto 193), (192, .iconst 0), (193, .putfield 270), (196, .aload 0), (197, .aload 0), (198, .getfield 269), (201, .putfield 272), (204, .return_)]
/-- OverInDinghyModel.byteAt(I)I -/
def i156 : List xI := [(0, .iload 1), (1, .aload 0), (2, .getfield 268), (5, .if_icmp .ge 17), (8, .aload 0), (9, .checkcast 265), (12, .iload 1), (13, .iaload), (14, .goto 19), (17, .iconst (-1000000)), (19, .ireturn)]
/-- OverInDinghyModel.isLetter(I)Z -/
def i157 : List xI := [(0, .iload 0), (1, .iconst 97), (3, .if_icmp .lt 16), (6, .iload 0), (7, .iconst 122), (9, .if_icmp .gt 16), (12, .iconst 1), (13, .goto 17), (16, .iconst 0), (17, .ireturn)]
/-- OverInDinghyModel.isFigure(I)Z -/
def i158 : List xI := [(0, .iload 0), (1, .iconst 48), (3, .if_icmp .lt 16), (6, .iload 0), (7, .iconst 57), (9, .if_icmp .gt 16), (12, .iconst 1), (13, .goto 17), (16, .iconst 0), (17, .ireturn)]
/-- OverInDinghyModel.readSea()V -/
def i159 : List xI := [(0, .aload 0), (1, .aload 0), (2, .invokevirtual 102475), (5, .goto_w 7562593), (8, .lcmp), (9, .ifCond .ne 16), (12, .iconst 1), (13, .goto 17), (16, .iconst 0), (17, .invokevirtual 103179), (20, .aload 0), (21, .checkcast 262), (24, .iconst 0), (25, .aload 0), (26, .iconst 0), (27, .iconst 30), (29, .invokevirtual 104523), (32, .iastore), (33, .aload 0), (34, .checkcast 262), (37, .iconst 1), (38, .aload 0), (39, .iconst 0), (40, .iconst 40), (42, .invokevirtual 104523), (45, .iastore), (46, .aload 0), (47, .invokevirtual 102475), (50, .goto_w 7173476), (53, .lcmp), (54, .ifCond .ne 69), (57, .aload 0), (58, .checkcast 262), (61, .iconst 2), (62, .iconst 1), (63, .iastore), (64, .aload 0), (65, .iconst 1), (66, .invokevirtual 103179), (69, .aload 0), (70, .invokevirtual 105675), (73, .return_)]
/-- OverInDinghyModel.word()J -/
def i160 : List xI := [(0, .goto_w 0), (1, .lstore 1), (2, .aload 0), (3, .getfield 271), (6, .istore 3), (7, .iload 3), (8, .aload 0), (9, .getfield 272), (12, .if_icmp .ge 56), (15, .aload 0), (16, .getfield 270), (19, .iconst 2), (20, .if_icmp .ne 56), (23, .aload 0), (24, .getfield 272), (27, .aload 0), (28, .getfield 271), (31, .isub), (32, .iconst 8), (34, .if_icmp .ge 56), (37, .lload 1), (38, .iconst 8), (40, .lshl), (41, .aload 0), (42, .checkcast 265), (45, .iload 3), (46, .iaload), (47, .i2l), (48, .lor), (49, .lstore 1), (50, .iinc 3 1), (53, .goto 7), (56, .aload 0), (57, .getfield 273), (60, .ifCond .ne 67), (63, .lload 1), (64, .goto 68), (67, .goto_w 0), (68, .lreturn)]
/-- OverInDinghyModel.must(Z)V -/
def i161 : List xI := [(0, .iload 1), (1, .ifCond .ne 9), (4, .aload 0), (5, .iconst 1), (6, .invokevirtual 103819), (9, .aload 0), (10, .getfield 273), (13, .ifCond .ne 20), (16, .aload 0), (17, .invokevirtual 99275), (20, .return_)]
/-- OverInDinghyModel.bad(I)V -/
def i162 : List xI := [(0, .aload 0), (1, .getfield 273), (4, .ifCond .ne 20), (7, .aload 0), (8, .iload 1), (9, .putfield 273), (12, .aload 0), (13, .aload 0), (14, .getfield 271), (17, .putfield 274), (20, .return_)]
/-- OverInDinghyModel.number(II)I -/
def i163 : List xI := [(0, .aload 0), (1, .getfield 273), (4, .ifCond .le 9), (7, .iconst 0), (8, .ireturn), (9, .aload 0), (10, .invokevirtual 105035), (13, .istore 3), (14, .aload 0), (15, .getfield 270), (18, .iconst 3), (19, .if_icmp .ne 39), (22, .iload 3), (23, .i2l), (24, .iload 1), (25, .i2l), (26, .iload 2), (27, .i2l), (28, .invokestatic 94912), (31, .ifCond .ne 39), (34, .aload 0), (35, .iconst 2), (36, .invokevirtual 103819), (39, .aload 0), (40, .aload 0), (41, .getfield 270), (44, .iconst 3), (45, .if_icmp .ne 52), (48, .iconst 1), (49, .goto 53), (52, .iconst 0), (53, .invokevirtual 103179), (56, .iload 3), (57, .ireturn)]
/-- OverInDinghyModel.figures()I -/
def i164 : List xI := [(0, .iconst 0), (1, .istore 1), (2, .aload 0), (3, .getfield 271), (6, .istore 2), (7, .iload 2), (8, .aload 0), (9, .getfield 272), (12, .if_icmp .ge 44), (15, .aload 0), (16, .getfield 270), (19, .iconst 3), (20, .if_icmp .ne 44), (23, .iconst 10), (25, .iload 1), (26, .imul), (27, .aload 0), (28, .checkcast 265), (31, .iload 2), (32, .iaload), (33, .iadd), (34, .iconst 48), (36, .isub), (37, .istore 1), (38, .iinc 2 1), (41, .goto 7), (44, .iload 1), (45, .ireturn)]
/-- OverInDinghyModel.mustEnd()V -/
def i165 : List xI := [(0, .aload 0), (1, .getfield 273), (4, .ifCond .ne 24), (7, .aload 0), (8, .aload 0), (9, .getfield 270), (12, .iconst 4), (13, .if_icmp .ne 20), (16, .iconst 1), (17, .goto 21), (20, .iconst 0), (21, .invokevirtual 103179), (24, .return_)]
/-- OverInDinghyModel.readBoat()V -/
def i166 : List xI := [(0, .aload 0), (1, .iconst 3), (2, .iconst 6), (4, .invokevirtual 107083), (7, .iconst 5), (8, .iconst 4), (9, .aload 0), (10, .checkcast 262), (13, .iconst 3), (14, .iaload), (15, .imul), (16, .iadd), (17, .istore 1), (18, .aload 0), (19, .iconst 1), (20, .iconst 30), (22, .invokevirtual 104523), (25, .istore 2), (26, .aload 0), (27, .iconst 1), (28, .iconst 30), (30, .invokevirtual 104523), (33, .istore 3), (34, .aload 0), (35, .iconst 0), (36, .iconst 9), (38, .invokevirtual 104523), (41, .istore 4), (43, .aload 0), (44, .iconst 0), (45, .iconst 20), (47, .invokevirtual 104523), (50, .istore 5), (52, .aload 0), (53, .invokevirtual 105675), (56, .aload 0), (57, .getfield 273), (60, .ifCond .ne 109), (63, .aload 0), (64, .checkcast 262), (67, .iload 1), (68, .iload 2), (69, .iastore), (70, .aload 0), (71, .checkcast 262), (74, .iload 1), (75, .iconst 1), (76, .iadd), (77, .iload 3), (78, .iastore), (79, .aload 0), (80, .checkcast 262), (83, .iload 1), (84, .iconst 2), (85, .iadd), (86, .iload 4), (88, .iastore), (89, .aload 0), (90, .checkcast 262), (93, .iload 1), (94, .iconst 3), (95, .iadd), (96, .iload 5), (98, .iastore), (99, .aload 0), (100, .checkcast 262), (103, .iconst 3), (104, .dup2), (105, .iaload), (106, .iconst 1), (107, .iadd), (108, .iastore), (109, .return_)]
/-- OverInDinghyModel.begins(II)V -/
def i167 : List xI := [(0, .aload 0), (1, .checkcast 262), (4, .iload 1), (5, .iaload), (6, .iload 2), (7, .if_icmp .ne 15), (10, .aload 0), (11, .iconst 3), (12, .invokevirtual 103819), (15, .aload 0), (16, .iconst 1), (17, .invokevirtual 103179), (20, .return_)]
/-- OverInDinghyModel.readHand()V -/
def i168 : List xI := [(0, .aload 0), (1, .iconst 4), (2, .iconst 12), (4, .invokevirtual 107083), (7, .iconst 29), (9, .iconst 3), (10, .aload 0), (11, .checkcast 262), (14, .iconst 4), (15, .iaload), (16, .imul), (17, .iadd), (18, .istore 1), (19, .aload 0), (20, .getfield 273), (23, .ifCond .ne 72), (26, .aload 0), (27, .getfield 270), (30, .iconst 3), (31, .if_icmp .ne 72), (34, .aload 0), (35, .invokevirtual 105035), (38, .i2l), (39, .goto_w 0), (40, .aload 0), (41, .checkcast 262), (44, .iconst 3), (45, .iaload), (46, .iconst 1), (47, .isub), (48, .i2l), (49, .invokestatic 94912), (52, .ifCond .eq 72), (55, .aload 0), (56, .aload 0), (57, .invokevirtual 105035), (60, .invokevirtual 108299), (63, .iconst 4), (64, .if_icmp .ne 72), (67, .aload 0), (68, .iconst 3), (69, .invokevirtual 103819), (72, .aload 0), (73, .iconst 0), (74, .aload 0), (75, .checkcast 262), (78, .iconst 3), (79, .iaload), (80, .iconst 1), (81, .isub), (82, .invokevirtual 104523), (85, .istore 2), (86, .aload 0), (87, .iconst 20), (89, .iconst 150), (92, .invokevirtual 104523), (95, .istore 3), (96, .aload 0), (97, .iconst 1), (98, .iconst 60), (100, .invokevirtual 104523), (103, .istore 4), (105, .aload 0), (106, .invokevirtual 105675), (109, .aload 0), (110, .getfield 273), (113, .ifCond .ne 152), (116, .aload 0), (117, .checkcast 262), (120, .iload 1), (121, .iload 2), (122, .iastore), (123, .aload 0), (124, .checkcast 262), (127, .iload 1), (128, .iconst 1), (129, .iadd), (130, .iload 3), (131, .iastore), (132, .aload 0), (133, .checkcast 262), (136, .iload 1), (137, .iconst 2), (138, .iadd), (139, .iload 4), (141, .iastore), (142, .aload 0), (143, .checkcast 262), (146, .iconst 4), (147, .dup2), (148, .iaload), (149, .iconst 1), (150, .iadd), (151, .iastore), (152, .return_)]
/-- OverInDinghyModel.handsTold(I)I -/
def i169 : List xI := [(0, .iconst 0), (1, .istore 2), (2, .iconst 0), (3, .istore 3), (4, .iload 3), (5, .aload 0), (6, .checkcast 262), (9, .iconst 4), (10, .iaload), (11, .if_icmp .ge 43), (14, .iload 2), (15, .aload 0), (16, .checkcast 262), (19, .iconst 29), (21, .iconst 3), (22, .iload 3), (23, .imul), (24, .iadd), (25, .iaload), (26, .iload 1), (27, .if_icmp .ne 34), (30, .iconst 1), (31, .goto 35), (34, .iconst 0), (35, .iadd), (36, .istore 2), (37, .iinc 3 1), (40, .goto 4), (43, .iload 2), (44, .ireturn)]
/-- OverInDinghyModel.fault()I -/
def i170 : List xI := [(0, .aload 0), (1, .iconst 0), (2, .putfield 256), (5, .aload 0), (6, .getfield 267), (9, .ireturn)]
/-- OverInDinghyModel.place(II)J -/
def i171 : List xI := [(0, .aload 0), (1, .iconst 0), (2, .putfield 256), (5, .aload 0), (6, .iload 1), (7, .invokevirtual 110219), (10, .ifCond .eq 25), (13, .iload 2), (14, .i2l), (15, .goto_w 0), (16, .goto_w 3), (19, .invokestatic 94912), (22, .ifCond .ne 29), (25, .goto_w (-9000000000000000001)), (28, .lreturn), (29, .aload 0), (30, .checkcast 264), (33, .iload 1), (34, .invokestatic 110848), (37, .ifCond .eq 57), (40, .iload 2), (41, .ifCond .ne 61), (44, .aload 0), (45, .aload 0), (46, .iload 1), (47, .iconst 0), (48, .invokevirtual 111563), (51, .invokevirtual 112139), (54, .ifCond .ne 61), (57, .goto_w (-9000000000000000002)), (60, .lreturn), (61, .aload 0), (62, .checkcast 264), (65, .iconst 24), (67, .iconst 2), (68, .iload 1), (69, .imul), (70, .iadd), (71, .iload 2), (72, .iastore), (73, .goto_w 1), (74, .lreturn)]
/-- OverInDinghyModel.isHand(I)Z -/
def i172 : List xI := [(0, .iload 1), (1, .i2l), (2, .goto_w 0), (3, .aload 0), (4, .checkcast 261), (7, .iconst 4), (8, .iaload), (9, .iconst 1), (10, .isub), (11, .i2l), (12, .invokestatic 94912), (15, .ireturn)]
/-- OverInDinghyModel.can([II)Z -/
def i173 : List xI := [(0, .aload 0), (1, .iconst 24), (3, .iconst 2), (4, .iload 1), (5, .imul), (6, .iadd), (7, .iconst 1), (8, .iadd), (9, .iaload), (10, .ifCond .le 17), (13, .iconst 1), (14, .goto 18), (17, .iconst 0), (18, .ireturn)]
/-- OverInDinghyModel.handOf(II)I -/
def i174 : List xI := [(0, .aload 0), (1, .checkcast 261), (4, .iconst 29), (6, .iconst 3), (7, .iload 1), (8, .imul), (9, .iadd), (10, .iload 2), (11, .iadd), (12, .iaload), (13, .ireturn)]
/-- OverInDinghyModel.isUpright(I)Z -/
def i175 : List xI := [(0, .aload 0), (1, .checkcast 264), (4, .iconst 4), (5, .iload 1), (6, .imul), (7, .iconst 0), (8, .iadd), (9, .iaload), (10, .ifCond .eq 27), (13, .aload 0), (14, .checkcast 264), (17, .iconst 4), (18, .iload 1), (19, .imul), (20, .iconst 0), (21, .iadd), (22, .iaload), (23, .iconst 4), (24, .if_icmp .ne 31), (27, .iconst 1), (28, .goto 32), (31, .iconst 0), (32, .ireturn)]
/-- OverInDinghyModel.tip(I)J -/
def i176 : List xI := [(0, .aload 0), (1, .iconst 0), (2, .putfield 256), (5, .aload 0), (6, .iload 1), (7, .invokevirtual 113419), (10, .ifCond .ne 17), (13, .goto_w (-9000000000000000001)), (16, .lreturn), (17, .aload 0), (18, .iload 1), (19, .invokevirtual 112139), (22, .ifCond .ne 29), (25, .goto_w (-9000000000000000002)), (28, .lreturn), (29, .aload 0), (30, .aload 0), (31, .checkcast 264), (34, .iload 1), (35, .invokevirtual 114123), (38, .goto_w 1), (39, .lreturn)]
/-- OverInDinghyModel.isBoat(I)Z -/
def i177 : List xI := [(0, .iload 1), (1, .i2l), (2, .goto_w 0), (3, .aload 0), (4, .checkcast 261), (7, .iconst 3), (8, .iaload), (9, .iconst 1), (10, .isub), (11, .i2l), (12, .invokestatic 94912), (15, .ireturn)]
/-- OverInDinghyModel.tips([II)V -/
def i178 : List xI := [(0, .aload 1), (1, .iconst 4), (2, .iload 2), (3, .imul), (4, .iconst 0), (5, .iadd), (6, .iconst 1), (7, .iastore), (8, .aload 1), (9, .iconst 4), (10, .iload 2), (11, .imul), (12, .iconst 1), (13, .iadd), (14, .iconst 0), (15, .iastore), (16, .aload 1), (17, .iconst 4), (18, .iload 2), (19, .imul), (20, .iconst 2), (21, .iadd), (22, .iconst 0), (23, .iastore), (24, .aload 1), (25, .iconst 4), (26, .iload 2), (27, .imul), (28, .iconst 3), (29, .iadd), (30, .dup2), (31, .iaload), (32, .iconst 1), (33, .iadd), (34, .iastore), (35, .aload 0), (36, .aload 1), (37, .iload 2), (38, .iconst 0), (39, .iconst 1), (40, .invokevirtual 114891), (43, .return_)]
/-- OverInDinghyModel.moveAll([IIII)V -/
def i179 : List xI := [(0, .iconst 0), (1, .istore 5), (3, .iload 5), (5, .aload 0), (6, .checkcast 261), (9, .iconst 4), (10, .iaload), (11, .if_icmp .ge 51), (14, .aload 0), (15, .iload 5), (17, .iload 2), (18, .invokevirtual 115403), (21, .ifCond .eq 45), (24, .aload 1), (25, .iload 5), (27, .invokestatic 115968), (30, .iload 3), (31, .if_icmp .ne 45), (34, .aload 1), (35, .iconst 24), (37, .iconst 2), (38, .iload 5), (40, .imul), (41, .iadd), (42, .iload 4), (44, .iastore), (45, .iinc 5 1), (48, .goto 3), (51, .return_)]
/-- OverInDinghyModel.isOf(II)Z -/
def i180 : List xI := [(0, .aload 0), (1, .iload 1), (2, .iconst 0), (3, .invokevirtual 111563), (6, .iload 2), (7, .if_icmp .ne 14), (10, .iconst 1), (11, .goto 15), (14, .iconst 0), (15, .ireturn)]
/-- OverInDinghyModel.placeOf([II)I -/
def i181 : List xI := [(0, .aload 0), (1, .iconst 24), (3, .iconst 2), (4, .iload 1), (5, .imul), (6, .iadd), (7, .iaload), (8, .ireturn)]
/-- OverInDinghyModel.go(II)J -/
def i182 : List xI := [(0, .aload 0), (1, .iconst 0), (2, .putfield 256), (5, .aload 0), (6, .getfield 263), (9, .ifCond .ne 16), (12, .goto_w (-9000000000000000002)), (15, .lreturn), (16, .iload 1), (17, .i2l), (18, .goto_w 1), (19, .goto_w 60), (22, .invokestatic 94912), (25, .ifCond .eq 40), (28, .iload 2), (29, .i2l), (30, .goto_w 1), (31, .goto_w 999999), (34, .invokestatic 94912), (37, .ifCond .ne 44), (40, .goto_w (-9000000000000000001)), (43, .lreturn), (44, .aload 0), (45, .iload 2), (46, .i2l), (47, .anewarray 275), (50, .iconst 0), (51, .istore 3), (52, .iload 3), (53, .iload 1), (54, .if_icmp .ge 105), (57, .iconst 0), (58, .istore 4), (60, .iload 4), (62, .aload 0), (63, .checkcast 261), (66, .iconst 3), (67, .iaload), (68, .if_icmp .ge 88), (71, .aload 0), (72, .aload 0), (73, .checkcast 264), (76, .iload 4), (78, .iconst 1), (79, .invokevirtual 117387), (82, .iinc 4 1), (85, .goto 60), (88, .aload 0), (89, .checkcast 264), (92, .iconst 48), (94, .dup2), (95, .iaload), (96, .iconst 1), (97, .iadd), (98, .iastore), (99, .iinc 3 1), (102, .goto 52), (105, .aload 0), (106, .checkcast 264), (109, .iconst 48), (111, .iaload), (112, .i2l), (113, .lreturn)]
/-- OverInDinghyModel.tick([IIZ)V -/
def i183 : List xI := [(0, .aload 1), (1, .iconst 4), (2, .iload 2), (3, .imul), (4, .iconst 0), (5, .iadd), (6, .iaload), (7, .tableswitch 60 0 4 #[40, 50, 60, 60, 40]), (40, .aload 0), (41, .aload 1), (42, .iload 2), (43, .iload 3), (44, .invokevirtual 118027), (47, .goto 66), (50, .aload 0), (51, .aload 1), (52, .iload 2), (53, .iload 3), (54, .invokevirtual 121227), (57, .goto 66), (60, .aload 0), (61, .aload 1), (62, .iload 2), (63, .invokevirtual 124363), (66, .aload 0), (67, .aload 1), (68, .iload 2), (69, .invokevirtual 125003), (72, .return_)]
/-- OverInDinghyModel.goUpright([IIZ)V -/
def i184 : List xI := [(0, .iconst 4), (1, .iload 2), (2, .imul), (3, .istore 4), (5, .iload 3), (6, .ifCond .eq 25), (9, .aload 0), (10, .checkcast 261), (13, .iconst 1), (14, .iaload), (15, .aload 0), (16, .iconst 10), (18, .invokevirtual 118539), (21, .iadd), (22, .goto 26), (25, .iconst 0), (26, .istore 5), (28, .iload 3), (29, .ifCond .eq 75), (32, .iload 5), (34, .aload 0), (35, .iload 2), (36, .iconst 1), (37, .invokevirtual 119243), (40, .imul), (41, .aload 0), (42, .aload 1), (43, .iload 2), (44, .invokevirtual 119883), (47, .iconst 5), (48, .aload 0), (49, .iload 2), (50, .iconst 0), (51, .invokevirtual 119243), (54, .imul), (55, .iadd), (56, .aload 1), (57, .iload 4), (59, .iconst 2), (60, .iadd), (61, .iaload), (62, .isub), (63, .if_icmp .le 75), (66, .aload 0), (67, .aload 1), (68, .iload 2), (69, .invokevirtual 114123), (72, .goto 142), (75, .aload 1), (76, .iload 4), (78, .iconst 0), (79, .iadd), (80, .iaload), (81, .iconst 4), (82, .if_icmp .ne 142), (85, .aload 1), (86, .iload 4), (88, .iconst 2), (89, .iadd), (90, .iaload), (91, .iconst 5), (92, .aload 0), (93, .aload 1), (94, .iload 2), (95, .invokevirtual 120523), (98, .imul), (99, .isub), (100, .aload 0), (101, .iload 2), (102, .iconst 2), (103, .invokevirtual 119243), (106, .isub), (107, .istore 6), (109, .aload 1), (110, .iload 4), (112, .iconst 2), (113, .iadd), (114, .iload 6), (116, .ifCond .ge 123), (119, .iconst 0), (120, .goto 125), (123, .iload 6), (125, .iastore), (126, .aload 1), (127, .iload 4), (129, .iconst 0), (130, .iadd), (131, .iload 6), (133, .ifCond .gt 140), (136, .iconst 0), (137, .goto 141), (140, .iconst 4), (141, .iastore), (142, .return_)]
/-- OverInDinghyModel.draw(I)I -/
def i185 : List xI := [(0, .aload 0), (1, .aload 0), (2, .instanceof 275), (5, .goto_w 16807), (8, .lmul), (9, .goto_w 2147483647), (12, .lrem), (13, .anewarray 275), (16, .aload 0), (17, .instanceof 275), (20, .iload 1), (21, .i2l), (22, .lrem), (23, .l2i), (24, .ireturn)]
/-- OverInDinghyModel.boatOf(II)I -/
def i186 : List xI := [(0, .aload 0), (1, .checkcast 261), (4, .iconst 5), (5, .iconst 4), (6, .iload 1), (7, .imul), (8, .iadd), (9, .iload 2), (10, .iadd), (11, .iaload), (12, .ireturn)]
/-- OverInDinghyModel.weightIn([II)I -/
def i187 : List xI := [(0, .iconst 0), (1, .istore 3), (2, .iconst 0), (3, .istore 4), (5, .iload 4), (7, .aload 0), (8, .checkcast 261), (11, .iconst 4), (12, .iaload), (13, .if_icmp .ge 55), (16, .iload 3), (17, .aload 0), (18, .iload 4), (20, .iload 2), (21, .invokevirtual 115403), (24, .ifCond .eq 46), (27, .aload 1), (28, .iload 4), (30, .invokestatic 115968), (33, .ifCond .ne 46), (36, .aload 0), (37, .iload 4), (39, .iconst 1), (40, .invokevirtual 111563), (43, .goto 47), (46, .iconst 0), (47, .iadd), (48, .istore 3), (49, .iinc 4 1), (52, .goto 5), (55, .iload 3), (56, .ireturn)]
/-- OverInDinghyModel.bailers([II)I -/
def i188 : List xI := [(0, .iconst 0), (1, .istore 3), (2, .iconst 0), (3, .istore 4), (5, .iload 4), (7, .aload 0), (8, .checkcast 261), (11, .iconst 4), (12, .iaload), (13, .if_icmp .ge 58), (16, .iload 3), (17, .aload 0), (18, .iload 4), (20, .iload 2), (21, .invokevirtual 115403), (24, .ifCond .eq 49), (27, .aload 1), (28, .iload 4), (30, .invokestatic 115968), (33, .ifCond .ne 49), (36, .aload 1), (37, .iload 4), (39, .invokestatic 110848), (42, .ifCond .eq 49), (45, .iconst 1), (46, .goto 50), (49, .iconst 0), (50, .iadd), (51, .istore 3), (52, .iinc 4 1), (55, .goto 5), (58, .iload 3), (59, .ireturn)]
/-- OverInDinghyModel.goSided([IIZ)V -/
def i189 : List xI := [(0, .iconst 4), (1, .iload 2), (2, .imul), (3, .istore 4), (5, .aload 0), (6, .aload 1), (7, .iload 2), (8, .invokevirtual 121803), (11, .aload 0), (12, .aload 1), (13, .iload 2), (14, .invokevirtual 123723), (17, .if_icmp .gt 97), (20, .aload 1), (21, .iload 4), (23, .iconst 0), (24, .iadd), (25, .iconst 4), (26, .iastore), (27, .aload 1), (28, .iload 4), (30, .iconst 2), (31, .iadd), (32, .iconst 70), (34, .iconst 6), (36, .aload 0), (37, .iload 2), (38, .iconst 2), (39, .invokevirtual 119243), (42, .imul), (43, .isub), (44, .iastore), (45, .aload 1), (46, .iload 4), (48, .iconst 1), (49, .iadd), (50, .iconst 0), (51, .iastore), (52, .aload 0), (53, .aload 1), (54, .iload 2), (55, .iconst 2), (56, .iconst 0), (57, .invokevirtual 114891), (60, .iload 3), (61, .ifCond .eq 96), (64, .aload 0), (65, .aload 1), (66, .iload 2), (67, .invokevirtual 122443), (70, .ifCond .ne 96), (73, .aload 0), (74, .iconst 100), (76, .invokevirtual 118539), (79, .iconst 2), (80, .aload 0), (81, .checkcast 261), (84, .iconst 1), (85, .iaload), (86, .imul), (87, .if_icmp .ge 96), (90, .aload 0), (91, .aload 1), (92, .iload 2), (93, .invokevirtual 114123), (96, .return_), (97, .aload 1), (98, .iload 4), (100, .iconst 1), (101, .iadd), (102, .iaload), (103, .iconst 20), (105, .iadd), (106, .aload 0), (107, .iload 2), (108, .iconst 3), (109, .invokevirtual 119243), (112, .isub), (113, .istore 5), (115, .aload 1), (116, .iload 4), (118, .iconst 1), (119, .iadd), (120, .iload 5), (122, .iconst 100), (124, .if_icmp .le 132), (127, .iconst 100), (129, .goto 134), (132, .iload 5), (134, .iastore), (135, .aload 1), (136, .iload 4), (138, .iconst 0), (139, .iadd), (140, .iload 5), (142, .iconst 100), (144, .if_icmp .ge 151), (147, .iconst 1), (148, .goto 166), (151, .aload 0), (152, .checkcast 261), (155, .iconst 2), (156, .iaload), (157, .iconst 1), (158, .if_icmp .ne 165), (161, .iconst 3), (162, .goto 166), (165, .iconst 2), (166, .iastore), (167, .return_)]
/-- OverInDinghyModel.needNow([II)I -/
def i190 : List xI := [(0, .aload 0), (1, .iload 2), (2, .aload 1), (3, .iconst 4), (4, .iload 2), (5, .imul), (6, .iconst 1), (7, .iadd), (8, .iaload), (9, .aload 0), (10, .aload 1), (11, .iload 2), (12, .invokevirtual 122443), (15, .invokevirtual 123147), (18, .ireturn)]
/-- OverInDinghyModel.hasBow([II)Z -/
def i191 : List xI := [(0, .iconst 0), (1, .istore 3), (2, .iconst 0), (3, .istore 4), (5, .iload 4), (7, .aload 0), (8, .checkcast 261), (11, .iconst 4), (12, .iaload), (13, .if_icmp .ge 61), (16, .iload 3), (17, .ifCond .ne 49), (20, .aload 0), (21, .iload 4), (23, .iload 2), (24, .invokevirtual 115403), (27, .ifCond .eq 53), (30, .aload 1), (31, .iload 4), (33, .invokestatic 115968), (36, .iconst 3), (37, .if_icmp .ne 53), (40, .aload 1), (41, .iload 4), (43, .invokestatic 110848), (46, .ifCond .eq 53), (49, .iconst 1), (50, .goto 54), (53, .iconst 0), (54, .istore 3), (55, .iinc 4 1), (58, .goto 5), (61, .iload 3), (62, .ireturn)]
/-- OverInDinghyModel.need(IIZ)I -/
def i192 : List xI := [(0, .iconst 10), (2, .aload 0), (3, .iload 1), (4, .iconst 1), (5, .invokevirtual 119243), (8, .imul), (9, .iload 2), (10, .iadd), (11, .iload 3), (12, .ifCond .eq 19), (15, .iconst 0), (16, .goto 27), (19, .iconst 2), (20, .aload 0), (21, .checkcast 261), (24, .iconst 1), (25, .iaload), (26, .imul), (27, .iadd), (28, .ireturn)]
/-- OverInDinghyModel.lever([II)I -/
def i193 : List xI := [(0, .iconst 0), (1, .istore 3), (2, .iconst 0), (3, .istore 4), (5, .iload 4), (7, .aload 0), (8, .checkcast 261), (11, .iconst 4), (12, .iaload), (13, .if_icmp .ge 65), (16, .iload 3), (17, .aload 0), (18, .iload 4), (20, .iload 2), (21, .invokevirtual 115403), (24, .ifCond .eq 56), (27, .aload 1), (28, .iload 4), (30, .invokestatic 115968), (33, .iconst 2), (34, .if_icmp .ne 56), (37, .aload 1), (38, .iload 4), (40, .invokestatic 110848), (43, .ifCond .eq 56), (46, .aload 0), (47, .iload 4), (49, .iconst 1), (50, .invokevirtual 111563), (53, .goto 57), (56, .iconst 0), (57, .iadd), (58, .istore 3), (59, .iinc 4 1), (62, .goto 5), (65, .iload 3), (66, .aload 0), (67, .iload 2), (68, .iconst 0), (69, .invokevirtual 119243), (72, .imul), (73, .iconst 10), (75, .idiv), (76, .ireturn)]
/-- OverInDinghyModel.goRound([II)V -/
def i194 : List xI := [(0, .iconst 4), (1, .iload 2), (2, .imul), (3, .istore 3), (4, .aload 1), (5, .iload 3), (6, .iconst 0), (7, .iadd), (8, .iaload), (9, .iconst 3), (10, .if_icmp .ne 17), (13, .iconst 1), (14, .goto 18), (17, .iconst 0), (18, .istore 4), (20, .iload 4), (22, .ifCond .eq 29), (25, .iconst 3), (26, .goto 30), (29, .iconst 2), (30, .aload 0), (31, .aload 1), (32, .iload 2), (33, .invokevirtual 121803), (36, .imul), (37, .aload 0), (38, .aload 1), (39, .iload 2), (40, .invokevirtual 123723), (43, .if_icmp .le 47), (46, .return_), (47, .aload 1), (48, .iload 3), (49, .iconst 0), (50, .iadd), (51, .iload 4), (53, .ifCond .eq 60), (56, .iconst 2), (57, .goto 61), (60, .iconst 1), (61, .iastore), (62, .aload 1), (63, .iload 3), (64, .iconst 1), (65, .iadd), (66, .iload 4), (68, .ifCond .eq 79), (71, .aload 1), (72, .iload 3), (73, .iconst 1), (74, .iadd), (75, .iaload), (76, .goto 81), (79, .iconst 50), (81, .iastore), (82, .aload 1), (83, .iload 3), (84, .iconst 3), (85, .iadd), (86, .dup2), (87, .iaload), (88, .iload 4), (90, .ifCond .eq 97), (93, .iconst 0), (94, .goto 98), (97, .iconst 1), (98, .iadd), (99, .iastore), (100, .return_)]
/-- OverInDinghyModel.getsCold([II)V -/
def i195 : List xI := [(0, .iconst 0), (1, .istore 3), (2, .iload 3), (3, .aload 0), (4, .checkcast 261), (7, .iconst 4), (8, .iaload), (9, .if_icmp .ge 85), (12, .aload 0), (13, .iload 3), (14, .iload 2), (15, .invokevirtual 115403), (18, .ifCond .eq 79), (21, .aload 1), (22, .iload 3), (23, .invokestatic 115968), (26, .ifCond .ne 40), (29, .aload 1), (30, .iconst 4), (31, .iload 2), (32, .imul), (33, .iconst 0), (34, .iadd), (35, .iaload), (36, .iconst 4), (37, .if_icmp .ne 79), (40, .aload 1), (41, .iconst 24), (43, .iconst 2), (44, .iload 3), (45, .imul), (46, .iadd), (47, .iconst 1), (48, .iadd), (49, .iaload), (50, .aload 0), (51, .iload 3), (52, .invokevirtual 125579), (55, .isub), (56, .istore 4), (58, .aload 1), (59, .iconst 24), (61, .iconst 2), (62, .iload 3), (63, .imul), (64, .iadd), (65, .iconst 1), (66, .iadd), (67, .iload 4), (69, .ifCond .ge 76), (72, .iconst 0), (73, .goto 78), (76, .iload 4), (78, .iastore), (79, .iinc 3 1), (82, .goto 2), (85, .return_)]
/-- OverInDinghyModel.coldOf(I)I -/
def i196 : List xI := [(0, .iconst 1000), (3, .iconst 6), (5, .aload 0), (6, .iload 1), (7, .iconst 2), (8, .invokevirtual 111563), (11, .imul), (12, .idiv), (13, .istore 2), (14, .aload 0), (15, .checkcast 261), (18, .iconst 0), (19, .iaload), (20, .iconst 10), (22, .if_icmp .ge 33), (25, .iload 2), (26, .iload 2), (27, .iconst 2), (28, .idiv), (29, .iadd), (30, .goto 34), (33, .iload 2), (34, .ireturn)]
/-- OverInDinghyModel.boat(II)J -/
def i197 : List xI := [(0, .aload 0), (1, .iconst 0), (2, .putfield 256), (5, .aload 0), (6, .iload 1), (7, .invokevirtual 113419), (10, .ifCond .ne 17), (13, .goto_w (-9000000000000000001)), (16, .lreturn), (17, .iload 2), (18, .tableswitch 117 0 6 #[60, 60, 60, 72, 83, 94, 105]), (60, .aload 0), (61, .checkcast 264), (64, .iconst 4), (65, .iload 1), (66, .imul), (67, .iload 2), (68, .iadd), (69, .iaload), (70, .i2l), (71, .lreturn), (72, .aload 0), (73, .aload 0), (74, .checkcast 264), (77, .iload 1), (78, .invokevirtual 121803), (81, .i2l), (82, .lreturn), (83, .aload 0), (84, .aload 0), (85, .checkcast 264), (88, .iload 1), (89, .invokevirtual 123723), (92, .i2l), (93, .lreturn), (94, .aload 0), (95, .aload 0), (96, .checkcast 264), (99, .iload 1), (100, .invokevirtual 119883), (103, .i2l), (104, .lreturn), (105, .aload 0), (106, .checkcast 264), (109, .iconst 4), (110, .iload 1), (111, .imul), (112, .iconst 3), (113, .iadd), (114, .iaload), (115, .i2l), (116, .lreturn), (117, .goto_w (-9000000000000000001)), (120, .lreturn)]
/-- OverInDinghyModel.hand(II)J -/
def i198 : List xI := [(0, .aload 0), (1, .iconst 0), (2, .putfield 256), (5, .aload 0), (6, .iload 1), (7, .invokevirtual 110219), (10, .ifCond .eq 25), (13, .iload 2), (14, .i2l), (15, .goto_w 0), (16, .goto_w 3), (19, .invokestatic 94912), (22, .ifCond .ne 29), (25, .goto_w (-9000000000000000001)), (28, .lreturn), (29, .iload 2), (30, .iconst 2), (31, .if_icmp .ge 44), (34, .aload 0), (35, .iload 1), (36, .iload 2), (37, .invokevirtual 111563), (40, .i2l), (41, .goto 60), (44, .aload 0), (45, .checkcast 264), (48, .iconst 24), (50, .iconst 2), (51, .iload 1), (52, .imul), (53, .iadd), (54, .iload 2), (55, .iadd), (56, .iconst 2), (57, .isub), (58, .iaload), (59, .i2l), (60, .lreturn)]
/-- OverInDinghyModel.rights(IIII)J -/
def i199 : List xI := [(0, .aload 0), (1, .iconst 0), (2, .putfield 256), (5, .aload 0), (6, .iload 1), (7, .invokevirtual 113419), (10, .ifCond .eq 53), (13, .iload 2), (14, .i2l), (15, .goto_w 0), (16, .goto_w 100), (19, .invokestatic 94912), (22, .ifCond .eq 53), (25, .iload 3), (26, .iconst (-1)), (27, .if_icmp .eq 47), (30, .aload 0), (31, .iload 3), (32, .invokevirtual 110219), (35, .ifCond .eq 53), (38, .aload 0), (39, .iload 3), (40, .iload 1), (41, .invokevirtual 115403), (44, .ifCond .eq 53), (47, .iload 4), (49, .iconst (-1)), (50, .if_icmp .ge 57), (53, .goto_w (-9000000000000000001)), (56, .lreturn), (57, .iload 3), (58, .ifCond .lt 76), (61, .aload 0), (62, .checkcast 264), (65, .iload 3), (66, .invokestatic 110848), (69, .ifCond .ne 76), (72, .goto_w (-9000000000000000002)), (75, .lreturn), (76, .aload 0), (77, .iload 1), (78, .iload 2), (79, .iload 3), (80, .ifCond .lt 87), (83, .iconst 1), (84, .goto 88), (87, .iconst 0), (88, .invokevirtual 123147), (91, .istore 5), (93, .iconst 0), (94, .istore 6), (96, .iconst 0), (97, .istore 7), (99, .iload 7), (101, .iconst 1), (102, .aload 0), (103, .checkcast 261), (106, .iconst 4), (107, .iaload), (108, .ishl), (109, .if_icmp .ge 145), (112, .aload 0), (113, .iload 1), (114, .iload 7), (116, .iload 3), (117, .iload 5), (119, .invokevirtual 128331), (122, .ifCond .eq 139), (125, .iload 6), (127, .iload 4), (129, .if_icmp .ne 136), (132, .iload 7), (134, .i2l), (135, .lreturn), (136, .iinc 6 1), (139, .iinc 7 1), (142, .goto 99), (145, .iload 4), (147, .ifCond .ge 156), (150, .iload 6), (152, .i2l), (153, .goto 159), (156, .goto_w (-1000000)), (159, .lreturn)]
/-- OverInDinghyModel.rightsBy(IIII)Z -/
def i200 : List xI := [(0, .iconst 0), (1, .istore 5), (3, .iconst 0), (4, .istore 6), (6, .iload 6), (8, .aload 0), (9, .checkcast 261), (12, .iconst 4), (13, .iaload), (14, .if_icmp .ge 75), (17, .iload 2), (18, .iload 6), (20, .ishr), (21, .iconst 1), (22, .iand), (23, .iconst 1), (24, .if_icmp .ne 69), (27, .aload 0), (28, .iload 6), (30, .iload 1), (31, .invokevirtual 115403), (34, .ifCond .eq 55), (37, .aload 0), (38, .checkcast 264), (41, .iload 6), (43, .invokestatic 110848), (46, .ifCond .eq 55), (49, .iload 6), (51, .iload 3), (52, .if_icmp .ne 57), (55, .iconst 0), (56, .ireturn), (57, .iload 5), (59, .aload 0), (60, .iload 6), (62, .iconst 1), (63, .invokevirtual 111563), (66, .iadd), (67, .istore 5), (69, .iinc 6 1), (72, .goto 6), (75, .iload 5), (77, .aload 0), (78, .iload 1), (79, .iconst 0), (80, .invokevirtual 119243), (83, .imul), (84, .iconst 10), (86, .idiv), (87, .iload 4), (89, .if_icmp .lt 96), (92, .iconst 1), (93, .goto 97), (96, .iconst 0), (97, .ireturn)]
/-- OverInDinghyModel.lightest(I)J -/
def i201 : List xI := [(0, .aload 0), (1, .iconst 0), (2, .putfield 256), (5, .aload 0), (6, .iload 1), (7, .invokevirtual 113419), (10, .ifCond .ne 17), (13, .goto_w (-9000000000000000001)), (16, .lreturn), (17, .iconst 20), (19, .istore 2), (20, .iload 2), (21, .iconst 150), (24, .if_icmp .gt 57), (27, .iload 2), (28, .aload 0), (29, .iload 1), (30, .iconst 0), (31, .invokevirtual 119243), (34, .imul), (35, .iconst 10), (37, .idiv), (38, .aload 0), (39, .iload 1), (40, .iconst 0), (41, .iconst 0), (42, .invokevirtual 123147), (45, .if_icmp .lt 51), (48, .iload 2), (49, .i2l), (50, .lreturn), (51, .iinc 2 1), (54, .goto 20), (57, .goto_w (-1000000)), (60, .lreturn)]
/-- OverInDinghyModel.round(I)J -/
def i202 : List xI := [(0, .aload 0), (1, .iconst 0), (2, .putfield 256), (5, .aload 0), (6, .iload 1), (7, .invokevirtual 113419), (10, .ifCond .ne 17), (13, .goto_w (-9000000000000000001)), (16, .lreturn), (17, .iconst 20), (19, .aload 0), (20, .iload 1), (21, .iconst 3), (22, .invokevirtual 119243), (25, .isub), (26, .istore 2), (27, .iload 2), (28, .ifCond .ne 37), (31, .goto_w (-1000000)), (34, .goto 46), (37, .iconst 100), (39, .iload 2), (40, .iadd), (41, .iconst 1), (42, .isub), (43, .iload 2), (44, .idiv), (45, .i2l), (46, .lreturn)]
/-- OverInDinghyModel.quickest(II)J -/
def i203 : List xI := [(0, .aload 0), (1, .iconst 0), (2, .putfield 256), (5, .aload 0), (6, .iload 1), (7, .invokevirtual 113419), (10, .ifCond .eq 23), (13, .iload 2), (14, .i2l), (15, .goto_w 0), (16, .goto_w 1), (17, .invokestatic 94912), (20, .ifCond .ne 27), (23, .goto_w (-9000000000000000001)), (26, .lreturn), (27, .aload 0), (28, .checkcast 264), (31, .iconst 4), (32, .iload 1), (33, .imul), (34, .iconst 0), (35, .iadd), (36, .iaload), (37, .iconst 1), (38, .if_icmp .eq 45), (41, .goto_w (-9000000000000000002)), (44, .lreturn), (45, .aload 0), (46, .iload 1), (47, .invokevirtual 130699), (50, .ifCond .ne 57), (53, .goto_w (-1000000)), (56, .lreturn), (57, .aload 0), (58, .iconst 21), (60, .putfield 279), (63, .aload 0), (64, .iconst (-1000000)), (66, .putfield 280), (69, .iconst 0), (70, .istore 3), (71, .iload 3), (72, .iconst 4096), (75, .if_icmp .ge 138), (78, .aload 0), (79, .iload 1), (80, .iload 3), (81, .invokevirtual 131403), (84, .istore 4), (86, .aload 0), (87, .iload 4), (89, .aload 0), (90, .getfield 279), (93, .if_icmp .ge 103), (96, .iload 3), (97, .iconst 8), (99, .ishr), (100, .goto 107), (103, .aload 0), (104, .getfield 280), (107, .putfield 280), (110, .aload 0), (111, .iload 4), (113, .aload 0), (114, .getfield 279), (117, .if_icmp .ge 125), (120, .iload 4), (122, .goto 129), (125, .aload 0), (126, .getfield 279), (129, .putfield 279), (132, .iinc 3 1), (135, .goto 71), (138, .aload 0), (139, .getfield 279), (142, .iconst 21), (144, .if_icmp .ne 153), (147, .goto_w (-1000000)), (150, .goto 170), (153, .iload 2), (154, .ifCond .ne 165), (157, .aload 0), (158, .getfield 279), (161, .i2l), (162, .goto 170), (165, .aload 0), (166, .getfield 280), (169, .i2l), (170, .lreturn)]
/-- OverInDinghyModel.layTwo(I)Z -/
def i204 : List xI := [(0, .aload 0), (1, .iconst (-1)), (2, .putfield 277), (5, .aload 0), (6, .iconst (-1)), (7, .putfield 278), (10, .iconst 0), (11, .istore 2), (12, .iload 2), (13, .aload 0), (14, .checkcast 261), (17, .iconst 4), (18, .iaload), (19, .if_icmp .ge 90), (22, .aload 0), (23, .iload 2), (24, .iload 1), (25, .invokevirtual 115403), (28, .ifCond .eq 84), (31, .aload 0), (32, .checkcast 264), (35, .iload 2), (36, .invokestatic 110848), (39, .ifCond .eq 84), (42, .aload 0), (43, .getfield 278), (46, .ifCond .ge 84), (49, .aload 0), (50, .aload 0), (51, .getfield 277), (54, .ifCond .ge 61), (57, .iconst (-1)), (58, .goto 62), (61, .iload 2), (62, .putfield 278), (65, .aload 0), (66, .aload 0), (67, .getfield 277), (70, .ifCond .ge 77), (73, .iload 2), (74, .goto 81), (77, .aload 0), (78, .getfield 277), (81, .putfield 277), (84, .iinc 2 1), (87, .goto 12), (90, .aload 0), (91, .getfield 278), (94, .ifCond .lt 101), (97, .iconst 1), (98, .goto 102), (101, .iconst 0), (102, .ireturn)]
/-- OverInDinghyModel.ticksBy(II)I -/
def i205 : List xI := [(0, .iconst 0), (1, .istore 3), (2, .iload 3), (3, .iconst 49), (5, .if_icmp .ge 26), (8, .aload 0), (9, .checkcast 276), (12, .iload 3), (13, .aload 0), (14, .checkcast 264), (17, .iload 3), (18, .iaload), (19, .iastore), (20, .iinc 3 1), (23, .goto 2), (26, .iconst 1), (27, .istore 3), (28, .iload 3), (29, .iconst 20), (31, .if_icmp .gt 123), (34, .iload 3), (35, .iconst 1), (36, .if_icmp .ne 46), (39, .iload 2), (40, .iconst 8), (42, .ishr), (43, .goto 64), (46, .iload 3), (47, .iconst 2), (48, .if_icmp .ne 60), (51, .iload 2), (52, .iconst 4), (53, .ishr), (54, .iconst 15), (56, .iand), (57, .goto 64), (60, .iload 2), (61, .iconst 15), (63, .iand), (64, .istore 4), (66, .aload 0), (67, .aload 0), (68, .getfield 277), (71, .iload 1), (72, .iload 4), (74, .iconst 2), (75, .ishr), (76, .invokevirtual 132107), (79, .aload 0), (80, .aload 0), (81, .getfield 278), (84, .iload 1), (85, .iload 4), (87, .iconst 3), (88, .iand), (89, .invokevirtual 132107), (92, .aload 0), (93, .aload 0), (94, .checkcast 276), (97, .iload 1), (98, .iconst 0), (99, .invokevirtual 117387), (102, .aload 0), (103, .checkcast 276), (106, .iconst 4), (107, .iload 1), (108, .imul), (109, .iconst 0), (110, .iadd), (111, .iaload), (112, .ifCond .ne 117), (115, .iload 3), (116, .ireturn), (117, .iinc 3 1), (120, .goto 28), (123, .iconst 21), (125, .ireturn)]
/-- OverInDinghyModel.goesTo(III)V -/
def i206 : List xI := [(0, .iload 3), (1, .ifCond .ne 31), (4, .aload 0), (5, .checkcast 276), (8, .iconst 4), (9, .iload 2), (10, .imul), (11, .iconst 0), (12, .iadd), (13, .iaload), (14, .ifCond .eq 31), (17, .aload 0), (18, .checkcast 276), (21, .iconst 4), (22, .iload 2), (23, .imul), (24, .iconst 0), (25, .iadd), (26, .iaload), (27, .iconst 4), (28, .if_icmp .ne 35), (31, .iconst 1), (32, .goto 36), (35, .iconst 0), (36, .istore 4), (38, .aload 0), (39, .checkcast 276), (42, .iload 1), (43, .invokestatic 110848), (46, .ifCond .eq 70), (49, .aload 0), (50, .checkcast 276), (53, .iconst 24), (55, .iconst 2), (56, .iload 1), (57, .imul), (58, .iadd), (59, .iload 4), (61, .ifCond .eq 68), (64, .iload 3), (65, .goto 69), (68, .iconst 1), (69, .iastore), (70, .return_)]
/-- OverInDinghyModel.tries(II)J -/
def i207 : List xI := [(0, .aload 0), (1, .iconst 0), (2, .putfield 256), (5, .aload 0), (6, .iload 1), (7, .invokevirtual 110219), (10, .ifCond .eq 25), (13, .iload 2), (14, .i2l), (15, .goto_w 1), (16, .goto_w 60), (19, .invokestatic 94912), (22, .ifCond .ne 29), (25, .goto_w (-9000000000000000001)), (28, .lreturn), (29, .aload 0), (30, .checkcast 264), (33, .iconst 24), (35, .iconst 2), (36, .iload 1), (37, .imul), (38, .iadd), (39, .iconst 1), (40, .iadd), (41, .iaload), (42, .istore 3), (43, .iconst 0), (44, .istore 4), (46, .iload 3), (47, .ifCond .le 66), (50, .iinc 4 1), (53, .iload 3), (54, .iload 2), (55, .aload 0), (56, .iload 1), (57, .invokevirtual 125579), (60, .imul), (61, .isub), (62, .istore 3), (63, .goto 46), (66, .iload 4), (68, .i2l), (69, .lreturn)]
/-- OverInDinghyModel.airs(I)J -/
def i208 : List xI := [(0, .aload 0), (1, .iconst 0), (2, .putfield 256), (5, .iload 1), (6, .i2l), (7, .goto_w 1), (8, .goto_w 4), (11, .invokestatic 94912), (14, .ifCond .ne 21), (17, .goto_w (-9000000000000000001)), (20, .lreturn), (21, .iconst 0), (22, .istore 2), (23, .iconst 0), (24, .istore 3), (25, .iload 3), (26, .iconst 10), (28, .if_icmp .ge 135), (31, .iconst 1), (32, .istore 4), (34, .iconst 0), (35, .istore 5), (37, .iload 5), (39, .iconst 10), (41, .if_icmp .ge 114), (44, .iload 5), (46, .iload 3), (47, .if_icmp .gt 68), (50, .iload 5), (52, .iload 1), (53, .invokestatic 133888), (56, .iload 3), (57, .iload 1), (58, .invokestatic 133888), (61, .if_icmp .gt 68), (64, .iconst 1), (65, .goto 69), (68, .iconst 0), (69, .istore 6), (71, .iload 4), (73, .ifCond .eq 105), (76, .iload 6), (78, .ifCond .eq 101), (81, .iload 5), (83, .iload 3), (84, .if_icmp .lt 105), (87, .iload 5), (89, .iload 1), (90, .invokestatic 133888), (93, .iload 3), (94, .iload 1), (95, .invokestatic 133888), (98, .if_icmp .lt 105), (101, .iconst 1), (102, .goto 106), (105, .iconst 0), (106, .istore 4), (108, .iinc 5 1), (111, .goto 37), (114, .iload 2), (115, .iload 4), (117, .ifCond .eq 126), (120, .iconst 1), (121, .iload 3), (122, .ishl), (123, .goto 127), (126, .iconst 0), (127, .ior), (128, .istore 2), (129, .iinc 3 1), (132, .goto 25), (135, .iload 2), (136, .i2l), (137, .lreturn)]
/-- OverInDinghyModel.bails(II)I -/
def i209 : List xI := [(0, .iconst 5), (1, .iload 1), (2, .imul), (3, .iload 0), (4, .iadd), (5, .istore 2), (6, .iconst 70), (8, .iconst 6), (10, .iload 0), (11, .imul), (12, .isub), (13, .iload 2), (14, .iadd), (15, .iconst 1), (16, .isub), (17, .iload 2), (18, .idiv), (19, .ireturn)]
/-- OverInDinghyModel.first(IIII)J -/
def i210 : List xI := [(0, .aload 0), (1, .iconst 0), (2, .putfield 256), (5, .aload 0), (6, .getfield 263), (9, .ifCond .ne 16), (12, .goto_w (-9000000000000000002)), (15, .lreturn), (16, .iload 1), (17, .invokestatic 94144), (20, .ifCond .eq 53), (23, .iload 2), (24, .i2l), (25, .goto_w 1), (26, .goto_w 2), (29, .invokestatic 94912), (32, .ifCond .eq 53), (35, .iload 3), (36, .i2l), (37, .goto_w 1), (38, .goto_w 20), (41, .invokestatic 94912), (44, .ifCond .eq 53), (47, .iload 4), (49, .iconst (-1)), (50, .if_icmp .ge 57), (53, .goto_w (-9000000000000000001)), (56, .lreturn), (57, .aload 0), (58, .checkcast 261), (61, .iconst 3), (62, .iaload), (63, .istore 5), (65, .aload 0), (66, .checkcast 258), (69, .iload 1), (70, .iaload), (71, .ifCond .ge 80), (74, .aload 0), (75, .iconst 1), (76, .invokevirtual 95499), (79, .lreturn), (80, .iload 5), (82, .aload 0), (83, .checkcast 259), (86, .iload 1), (87, .iaload), (88, .if_icmp .le 97), (91, .aload 0), (92, .iconst 2), (93, .invokevirtual 95499), (96, .lreturn), (97, .iconst 0), (98, .istore 6), (100, .iload 6), (102, .iload 5), (104, .if_icmp .ge 149), (107, .aload 0), (108, .checkcast 260), (111, .iconst 40), (113, .iload 1), (114, .imul), (115, .iload 6), (117, .iadd), (118, .iaload), (119, .i2l), (120, .goto_w 0), (121, .goto_w 99), (124, .invokestatic 94912), (127, .ifCond .ne 134), (130, .goto_w (-9000000000000000001)), (133, .lreturn), (134, .aload 0), (135, .checkcast 281), (138, .iload 6), (140, .iload 6), (142, .iastore), (143, .iinc 6 1), (146, .goto 100), (149, .aload 0), (150, .iconst 0), (151, .putfield 257), (154, .iconst (-1)), (155, .istore 6), (157, .iconst 1), (158, .istore 7), (160, .iload 7), (162, .ifCond .eq 251), (165, .aload 0), (166, .iconst 40), (168, .iload 1), (169, .imul), (170, .iload 2), (171, .iload 3), (172, .invokevirtual 135307), (175, .istore 8), (177, .iconst 0), (178, .istore 9), (180, .iload 9), (182, .iload 5), (184, .if_icmp .ge 219), (187, .iload 6), (189, .ifCond .lt 199), (192, .iload 8), (194, .iload 6), (196, .if_icmp .ge 219), (199, .aload 0), (200, .checkcast 282), (203, .iload 9), (205, .aload 0), (206, .checkcast 281), (209, .iload 9), (211, .iaload), (212, .iastore), (213, .iinc 9 1), (216, .goto 180), (219, .iload 6), (221, .ifCond .lt 231), (224, .iload 8), (226, .iload 6), (228, .if_icmp .ge 236), (231, .iload 8), (233, .goto 238), (236, .iload 6), (238, .istore 6), (240, .aload 0), (241, .iload 5), (243, .invokevirtual 135819), (246, .istore 7), (248, .goto 160), (251, .iload 4), (253, .ifCond .ge 262), (256, .iload 6), (258, .i2l), (259, .goto 283), (262, .iload 4), (264, .iload 5), (266, .if_icmp .ge 280), (269, .aload 0), (270, .checkcast 282), (273, .iload 4), (275, .iaload), (276, .i2l), (277, .goto 283), (280, .goto_w (-1000000)), (283, .lreturn)]
/-- OverInDinghyModel.harmBy(III)I -/
def i211 : List xI := [(0, .iconst 0), (1, .istore 4), (3, .iconst 0), (4, .istore 5), (6, .iload 5), (8, .aload 0), (9, .checkcast 261), (12, .iconst 3), (13, .iaload), (14, .if_icmp .ge 51), (17, .iload 4), (19, .aload 0), (20, .checkcast 260), (23, .iload 1), (24, .aload 0), (25, .checkcast 281), (28, .iload 5), (30, .iaload), (31, .iadd), (32, .iaload), (33, .iload 5), (35, .iload 2), (36, .idiv), (37, .iconst 1), (38, .iadd), (39, .imul), (40, .iload 3), (41, .imul), (42, .iadd), (43, .istore 4), (45, .iinc 5 1), (48, .goto 6), (51, .iload 4), (53, .ireturn)]
/-- OverInDinghyModel.nextOrder(I)Z -/
def i212 : List xI := [(0, .iload 1), (1, .iconst 2), (2, .isub), (3, .istore 2), (4, .iload 2), (5, .ifCond .lt 31), (8, .aload 0), (9, .checkcast 281), (12, .iload 2), (13, .iaload), (14, .aload 0), (15, .checkcast 281), (18, .iload 2), (19, .iconst 1), (20, .iadd), (21, .iaload), (22, .if_icmp .le 31), (25, .iinc 2 (-1)), (28, .goto 4), (31, .iload 2), (32, .ifCond .ge 37), (35, .iconst 0), (36, .ireturn), (37, .iload 1), (38, .iconst 1), (39, .isub), (40, .istore 3), (41, .aload 0), (42, .checkcast 281), (45, .iload 3), (46, .iaload), (47, .aload 0), (48, .checkcast 281), (51, .iload 2), (52, .iaload), (53, .if_icmp .ge 62), (56, .iinc 3 (-1)), (59, .goto 41), (62, .aload 0), (63, .iload 2), (64, .iload 3), (65, .invokevirtual 136523), (68, .iload 1), (69, .iconst 1), (70, .isub), (71, .istore 4), (73, .iload 2), (74, .iconst 1), (75, .iadd), (76, .istore 5), (78, .iload 5), (80, .iload 4), (82, .if_icmp .ge 102), (85, .aload 0), (86, .iload 5), (88, .iload 4), (90, .invokevirtual 136523), (93, .iinc 4 (-1)), (96, .iinc 5 1), (99, .goto 78), (102, .iconst 1), (103, .ireturn)]
/-- OverInDinghyModel.swap(II)V -/
def i213 : List xI := [(0, .aload 0), (1, .checkcast 281), (4, .iload 1), (5, .iaload), (6, .istore 3), (7, .aload 0), (8, .checkcast 281), (11, .iload 1), (12, .aload 0), (13, .checkcast 281), (16, .iload 2), (17, .iaload), (18, .iastore), (19, .aload 0), (20, .checkcast 281), (23, .iload 2), (24, .iload 3), (25, .iastore), (26, .return_)]
/-- OverInDinghyModel.over(IIII)J -/
def i214 : List xI := [(0, .aload 0), (1, .iconst 0), (2, .putfield 256), (5, .iload 1), (6, .iload 3), (7, .invokestatic 137728), (10, .ifCond .eq 57), (13, .iload 2), (14, .i2l), (15, .goto_w 0), (16, .goto_w 100), (19, .invokestatic 94912), (22, .ifCond .eq 57), (25, .iload 4), (27, .i2l), (28, .goto_w 0), (29, .goto_w 1), (30, .invokestatic 94912), (33, .ifCond .eq 57), (36, .iload 1), (37, .iload 2), (38, .iload 3), (39, .invokestatic 138432), (42, .goto_w 100), (45, .iload 1), (46, .invokestatic 139008), (49, .iload 4), (51, .invokestatic 139712), (54, .goto 60), (57, .goto_w (-9000000000000000001)), (60, .lreturn)]
/-- OverInDinghyModel.areOver(II)Z -/
def i215 : List xI := [(0, .iload 0), (1, .i2l), (2, .goto_w 1), (3, .goto_w 7), (6, .invokestatic 94912), (9, .ifCond .eq 28), (12, .iload 1), (13, .i2l), (14, .goto_w 0), (15, .goto_w 7), (18, .invokestatic 94912), (21, .ifCond .eq 28), (24, .iconst 1), (25, .goto 29), (28, .iconst 0), (29, .ireturn)]
/-- OverInDinghyModel.overWays(III)J -/
def i216 : List xI := [(0, .goto_w 0), (1, .lstore 3), (2, .goto_w 1), (3, .lstore 5), (5, .iconst 0), (6, .istore 7), (8, .iload 7), (10, .iload 0), (11, .if_icmp .gt 73), (14, .lload 3), (15, .iload 7), (17, .iload 2), (18, .if_icmp .le 48), (21, .lload 5), (23, .iload 1), (24, .i2l), (25, .iload 7), (27, .invokestatic 139008), (30, .lmul), (31, .goto_w 100), (34, .iload 1), (35, .i2l), (36, .lsub), (37, .iload 0), (38, .iload 7), (40, .isub), (41, .invokestatic 139008), (44, .lmul), (45, .goto 49), (48, .goto_w 0), (49, .ladd), (50, .lstore 3), (51, .lload 5), (53, .iload 0), (54, .iload 7), (56, .isub), (57, .i2l), (58, .lmul), (59, .iload 7), (61, .iconst 1), (62, .iadd), (63, .i2l), (64, .ldiv), (65, .lstore 5), (67, .iinc 7 1), (70, .goto 8), (73, .lload 3), (74, .lreturn)]
/-- OverInDinghyModel.power(JI)J -/
def i217 : List xI := [(0, .goto_w 1), (1, .lstore 3), (2, .iconst 0), (3, .istore 5), (5, .iload 5), (7, .iload 2), (8, .if_icmp .ge 21), (11, .lload 3), (12, .lload 0), (13, .lmul), (14, .lstore 3), (15, .iinc 5 1), (18, .goto 5), (21, .lload 3), (22, .lreturn)]
/-- OverInDinghyModel.partOf(JJI)J -/
def i218 : List xI := [(0, .lload 0), (1, .lstore 5), (3, .lload 2), (4, .lstore 7), (6, .lload 7), (8, .goto_w 0), (9, .lcmp), (10, .ifCond .eq 31), (13, .lload 5), (15, .lload 7), (17, .lrem), (18, .lstore 9), (20, .lload 7), (22, .lstore 5), (24, .lload 9), (26, .lstore 7), (28, .goto 6), (31, .iload 4), (33, .ifCond .ne 40), (36, .lload 0), (37, .goto 41), (40, .lload 2), (41, .lload 5), (43, .ldiv), (44, .lreturn)]
/-- OverInDinghyModel.staysIn(III)J -/
def i219 : List xI := [(0, .aload 0), (1, .iconst 0), (2, .putfield 256), (5, .iload 1), (6, .iload 2), (7, .invokestatic 137728), (10, .ifCond .eq 25), (13, .iload 3), (14, .i2l), (15, .goto_w 0), (16, .goto_w 999), (19, .invokestatic 94912), (22, .ifCond .ne 29), (25, .goto_w (-9000000000000000001)), (28, .lreturn), (29, .iconst 0), (30, .istore 4), (32, .iload 4), (34, .iconst 40), (36, .if_icmp .gt 74), (39, .goto_w 1000), (42, .iload 1), (43, .iload 4), (45, .iload 2), (46, .invokestatic 138432), (49, .lmul), (50, .iload 3), (51, .i2l), (52, .goto_w 100), (55, .iload 1), (56, .invokestatic 139008), (59, .lmul), (60, .lcmp), (61, .ifCond .le 68), (64, .iload 4), (66, .i2l), (67, .lreturn), (68, .iinc 4 1), (71, .goto 32), (74, .goto_w (-1000000)), (77, .lreturn)]
/-- OverInDinghyModel.heads(II)J -/
def i220 : List xI := [(0, .aload 0), (1, .iconst 0), (2, .putfield 256), (5, .aload 0), (6, .getfield 263), (9, .ifCond .ne 16), (12, .goto_w (-9000000000000000002)), (15, .lreturn), (16, .iload 1), (17, .invokestatic 94144), (20, .ifCond .eq 35), (23, .iload 2), (24, .i2l), (25, .goto_w 0), (26, .goto_w 2), (29, .invokestatic 94912), (32, .ifCond .ne 39), (35, .goto_w (-9000000000000000001)), (38, .lreturn), (39, .aload 0), (40, .checkcast 261), (43, .iconst 3), (44, .iaload), (45, .istore 3), (46, .aload 0), (47, .checkcast 258), (50, .iload 1), (51, .iaload), (52, .ifCond .ge 61), (55, .aload 0), (56, .iconst 1), (57, .invokevirtual 95499), (60, .lreturn), (61, .iconst 2), (62, .iload 3), (63, .imul), (64, .aload 0), (65, .checkcast 259), (68, .iload 1), (69, .iaload), (70, .if_icmp .le 79), (73, .aload 0), (74, .iconst 2), (75, .invokevirtual 95499), (78, .lreturn), (79, .iconst 0), (80, .istore 4), (82, .iload 4), (84, .iconst 2), (85, .iload 3), (86, .imul), (87, .if_icmp .ge 123), (90, .aload 0), (91, .checkcast 260), (94, .iconst 40), (96, .iload 1), (97, .imul), (98, .iload 4), (100, .iadd), (101, .iaload), (102, .i2l), (103, .goto_w 0), (104, .goto_w 9), (107, .invokestatic 94912), (110, .ifCond .ne 117), (113, .goto_w (-9000000000000000001)), (116, .lreturn), (117, .iinc 4 1), (120, .goto 82), (123, .aload 0), (124, .iconst 0), (125, .putfield 257), (128, .iconst 0), (129, .istore 4), (131, .iconst 0), (132, .istore 5), (134, .iconst 0), (135, .istore 6), (137, .iload 6), (139, .iload 3), (140, .if_icmp .ge 216), (143, .aload 0), (144, .checkcast 260), (147, .iconst 40), (149, .iload 1), (150, .imul), (151, .iconst 2), (152, .iload 6), (154, .imul), (155, .iadd), (156, .iconst 1), (157, .iadd), (158, .iaload), (159, .aload 0), (160, .checkcast 260), (163, .iconst 40), (165, .iload 1), (166, .imul), (167, .iconst 2), (168, .iload 6), (170, .imul), (171, .iadd), (172, .iaload), (173, .isub), (174, .istore 7), (176, .iload 4), (178, .iload 7), (180, .ifCond .ge 190), (183, .iconst 1), (184, .iload 6), (186, .ishl), (187, .goto 191), (190, .iconst 0), (191, .ior), (192, .istore 4), (194, .iload 5), (196, .iload 7), (198, .ifCond .le 206), (201, .iload 7), (203, .goto 207), (206, .iconst 0), (207, .iadd), (208, .istore 5), (210, .iinc 6 1), (213, .goto 137), (216, .iload 2), (217, .ifCond .ne 226), (220, .iload 4), (222, .i2l), (223, .goto 252), (226, .iload 2), (227, .iconst 1), (228, .if_icmp .ne 237), (231, .iload 5), (233, .i2l), (234, .goto 252), (237, .iload 4), (239, .ifCond .ne 251), (242, .iload 5), (244, .ifCond .ne 251), (247, .goto_w 1), (248, .goto 252), (251, .goto_w 0), (252, .lreturn)]
/-- OverInDinghyModel.image(I)J -/
def i221 : List xI := [(0, .aload 0), (1, .iconst 0), (2, .putfield 256), (5, .iload 1), (6, .i2l), (7, .goto_w 0), (8, .goto_w 1), (9, .invokestatic 94912), (12, .ifCond .ne 19), (15, .goto_w (-9000000000000000001)), (18, .lreturn), (19, .aload 0), (20, .getfield 263), (23, .ifCond .ne 30), (26, .goto_w (-9000000000000000002)), (29, .lreturn), (30, .iconst 0), (31, .istore 2), (32, .iload 2), (33, .iconst 65), (35, .if_icmp .ge 61), (38, .aload 0), (39, .checkcast 284), (42, .iconst 65), (44, .iload 1), (45, .imul), (46, .iload 2), (47, .iadd), (48, .aload 0), (49, .checkcast 261), (52, .iload 2), (53, .iaload), (54, .iastore), (55, .iinc 2 1), (58, .goto 32), (61, .iconst 0), (62, .istore 2), (63, .iload 2), (64, .iconst 49), (66, .if_icmp .ge 92), (69, .aload 0), (70, .checkcast 285), (73, .iconst 49), (75, .iload 1), (76, .imul), (77, .iload 2), (78, .iadd), (79, .aload 0), (80, .checkcast 264), (83, .iload 2), (84, .iaload), (85, .iastore), (86, .iinc 2 1), (89, .goto 63), (92, .aload 0), (93, .checkcast 283), (96, .iload 1), (97, .iconst 1), (98, .dastore), (99, .goto_w 1), (100, .lreturn)]
/-- OverInDinghyModel.restore(I)J -/
def i222 : List xI := [(0, .aload 0), (1, .iconst 0), (2, .putfield 256), (5, .iload 1), (6, .i2l), (7, .goto_w 0), (8, .goto_w 1), (9, .invokestatic 94912), (12, .ifCond .ne 19), (15, .goto_w (-9000000000000000001)), (18, .lreturn), (19, .aload 0), (20, .checkcast 283), (23, .iload 1), (24, .daload), (25, .ifCond .ne 32), (28, .goto_w (-9000000000000000002)), (31, .lreturn), (32, .iconst 0), (33, .istore 2), (34, .iload 2), (35, .iconst 65), (37, .if_icmp .ge 63), (40, .aload 0), (41, .checkcast 261), (44, .iload 2), (45, .aload 0), (46, .checkcast 284), (49, .iconst 65), (51, .iload 1), (52, .imul), (53, .iload 2), (54, .iadd), (55, .iaload), (56, .iastore), (57, .iinc 2 1), (60, .goto 34), (63, .iconst 0), (64, .istore 2), (65, .iload 2), (66, .iconst 49), (68, .if_icmp .ge 94), (71, .aload 0), (72, .checkcast 264), (75, .iload 2), (76, .aload 0), (77, .checkcast 285), (80, .iconst 49), (82, .iload 1), (83, .imul), (84, .iload 2), (85, .iadd), (86, .iaload), (87, .iastore), (88, .iinc 2 1), (91, .goto 65), (94, .goto_w 1), (95, .lreturn)]
/-- OverInDinghyModel.kind(I)J -/
def i223 : List xI := [(0, .aload 0), (1, .iconst 0), (2, .putfield 256), (5, .aload 0), (6, .iload 1), (7, .invokevirtual 113419), (10, .ifCond .eq 22), (13, .aload 0), (14, .iload 1), (15, .invokevirtual 143499), (18, .i2l), (19, .goto 25), (22, .goto_w (-9000000000000000001)), (25, .lreturn)]
/-- OverInDinghyModel.kindOf(I)I -/
def i224 : List xI := [(0, .aload 0), (1, .checkcast 264), (4, .iconst 4), (5, .iload 1), (6, .imul), (7, .iconst 0), (8, .iadd), (9, .iaload), (10, .istore 2), (11, .iload 2), (12, .iconst 4), (13, .if_icmp .ne 20), (16, .iconst 5), (17, .goto 23), (20, .iload 2), (21, .iconst 1), (22, .iadd), (23, .ireturn)]
/-- OverInDinghyModel.as(II)J -/
def i225 : List xI := [(0, .aload 0), (1, .iconst 0), (2, .putfield 256), (5, .aload 0), (6, .iload 1), (7, .invokevirtual 113419), (10, .ifCond .eq 25), (13, .iload 2), (14, .i2l), (15, .goto_w 0), (16, .goto_w 5), (19, .invokestatic 94912), (22, .ifCond .ne 29), (25, .goto_w (-9000000000000000001)), (28, .lreturn), (29, .aload 0), (30, .iconst 0), (31, .putfield 257), (34, .aload 0), (35, .iload 1), (36, .invokevirtual 143499), (39, .iload 2), (40, .invokestatic 144768), (43, .ifCond .eq 51), (46, .iload 1), (47, .i2l), (48, .goto 56), (51, .aload 0), (52, .iconst 3), (53, .invokevirtual 95499), (56, .lreturn)]
/-- OverInDinghyModel.isKindOf(II)Z -/
def i226 : List xI := [(0, .iload 1), (1, .ifCond .eq 34), (4, .iload 0), (5, .iload 1), (6, .if_icmp .eq 34), (9, .iload 1), (10, .iconst 2), (11, .if_icmp .ne 24), (14, .iload 0), (15, .iconst 3), (16, .if_icmp .eq 34), (19, .iload 0), (20, .iconst 4), (21, .if_icmp .eq 34), (24, .iload 1), (25, .iconst 3), (26, .if_icmp .ne 38), (29, .iload 0), (30, .iconst 4), (31, .if_icmp .ne 38), (34, .iconst 1), (35, .goto 39), (38, .iconst 0), (39, .ireturn)]
/-- OverInDinghyModel.ask(II)J -/
def i227 : List xI := [(0, .aload 0), (1, .iconst 0), (2, .putfield 256), (5, .aload 0), (6, .iload 1), (7, .invokevirtual 113419), (10, .ifCond .eq 23), (13, .iload 2), (14, .i2l), (15, .goto_w 0), (16, .goto_w 1), (17, .invokestatic 94912), (20, .ifCond .ne 27), (23, .goto_w (-9000000000000000001)), (26, .lreturn), (27, .aload 0), (28, .iconst 0), (29, .putfield 287), (32, .aload 0), (33, .iload 1), (34, .invokevirtual 143499), (37, .istore 3), (38, .iload 3), (39, .iconst 2), (40, .invokestatic 144768), (43, .ifCond .eq 68), (46, .iload 2), (47, .ifCond .ne 60), (50, .aload 0), (51, .iload 1), (52, .iload 3), (53, .invokevirtual 146123), (56, .i2l), (57, .goto 67), (60, .aload 0), (61, .iload 1), (62, .iload 3), (63, .invokevirtual 148043), (66, .i2l), (67, .lreturn), (68, .iload 2), (69, .ifCond .ne 82), (72, .aload 0), (73, .iload 1), (74, .iload 3), (75, .invokevirtual 148683), (78, .i2l), (79, .goto 89), (82, .aload 0), (83, .iload 1), (84, .iload 3), (85, .invokevirtual 149323), (88, .i2l), (89, .lreturn)]
/-- OverInDinghyModel.lyingSize(II)I -/
def i228 : List xI := [(0, .iload 2), (1, .iconst 4), (2, .if_icmp .ne 11), (5, .aload 0), (6, .iconst 14), (8, .invokevirtual 146699), (11, .iload 2), (12, .iconst 2), (13, .if_icmp .eq 22), (16, .aload 0), (17, .iconst 12), (19, .invokevirtual 146699), (22, .aload 0), (23, .iconst 11), (25, .invokevirtual 146699), (28, .aload 0), (29, .iload 1), (30, .invokevirtual 147339), (33, .istore 3), (34, .iload 3), (35, .aload 0), (36, .iload 1), (37, .iload 2), (38, .invokevirtual 148043), (41, .iadd), (42, .istore 3), (43, .iload 2), (44, .iconst 2), (45, .if_icmp .ne 52), (48, .iload 3), (49, .goto 70), (52, .iload 2), (53, .iconst 3), (54, .if_icmp .ne 63), (57, .iconst 2), (58, .iload 3), (59, .imul), (60, .goto 70), (63, .iconst 2), (64, .iload 3), (65, .imul), (66, .iconst 1000), (69, .iadd), (70, .ireturn)]
/-- OverInDinghyModel.began(I)V -/
def i229 : List xI := [(0, .aload 0), (1, .getfield 287), (4, .iconst 16), (6, .if_icmp .ge 29), (9, .aload 0), (10, .checkcast 286), (13, .aload 0), (14, .getfield 287), (17, .iload 1), (18, .iastore), (19, .aload 0), (20, .dup), (21, .getfield 287), (24, .iconst 1), (25, .iadd), (26, .putfield 287), (29, .return_)]
/-- OverInDinghyModel.plainSize(I)I -/
def i230 : List xI := [(0, .aload 0), (1, .iconst 10), (3, .invokevirtual 146699), (6, .aload 0), (7, .checkcast 264), (10, .iconst 4), (11, .iload 1), (12, .imul), (13, .iconst 2), (14, .iadd), (15, .iaload), (16, .ireturn)]
/-- OverInDinghyModel.lyingMark(II)I -/
def i231 : List xI := [(0, .iload 2), (1, .iconst 4), (2, .if_icmp .ne 11), (5, .aload 0), (6, .iconst 22), (8, .invokevirtual 146699), (11, .aload 0), (12, .iconst 21), (14, .invokevirtual 146699), (17, .aload 0), (18, .iconst 20), (20, .invokevirtual 146699), (23, .iload 1), (24, .aload 0), (25, .checkcast 264), (28, .iconst 4), (29, .iload 1), (30, .imul), (31, .iconst 1), (32, .iadd), (33, .iaload), (34, .iadd), (35, .iload 2), (36, .iconst 4), (37, .if_icmp .ne 46), (40, .iconst 500), (43, .goto 47), (46, .iconst 0), (47, .isub), (48, .ireturn)]
/-- OverInDinghyModel.otherSize(II)I -/
def i232 : List xI := [(0, .iload 2), (1, .iconst 1), (2, .if_icmp .ne 11), (5, .aload 0), (6, .iload 1), (7, .invokevirtual 147339), (10, .ireturn), (11, .aload 0), (12, .iconst 13), (14, .invokevirtual 146699), (17, .aload 0), (18, .iload 1), (19, .invokevirtual 147339), (22, .ineg), (23, .ireturn)]
/-- OverInDinghyModel.otherMark(II)I -/
def i233 : List xI := [(0, .aload 0), (1, .iload 2), (2, .iconst 1), (3, .if_icmp .ne 11), (6, .iconst 23), (8, .goto 13), (11, .iconst 24), (13, .invokevirtual 146699), (16, .aload 0), (17, .iconst 20), (19, .invokevirtual 146699), (22, .aload 0), (23, .iload 1), (24, .iload 2), (25, .invokevirtual 148683), (28, .istore 3), (29, .iload 2), (30, .iconst 1), (31, .if_icmp .ne 40), (34, .iload 1), (35, .iload 3), (36, .isub), (37, .goto 43), (40, .iload 1), (41, .iload 3), (42, .iadd), (43, .ireturn)]
/-- OverInDinghyModel.trace(I)I -/
def i234 : List xI := [(0, .aload 0), (1, .iconst 0), (2, .putfield 256), (5, .iload 1), (6, .i2l), (7, .goto_w 0), (8, .aload 0), (9, .getfield 287), (12, .iconst 1), (13, .isub), (14, .i2l), (15, .invokestatic 94912), (18, .ifCond .eq 30), (21, .aload 0), (22, .checkcast 286), (25, .iload 1), (26, .iaload), (27, .goto 32), (30, .iconst (-1000000)), (32, .ireturn)]
/-- OverInDinghyModel.count(I)J -/
def i235 : List xI := [(0, .aload 0), (1, .iconst 0), (2, .putfield 256), (5, .iconst 0), (6, .istore 2), (7, .iload 1), (8, .tableswitch 219 0 7 #[56, 90, 98, 106, 115, 121, 161, 211]), (56, .iconst 0), (57, .istore 3), (58, .iload 3), (59, .iconst 8), (61, .if_icmp .ge 87), (64, .iload 2), (65, .aload 0), (66, .checkcast 258), (69, .iload 3), (70, .iaload), (71, .ifCond .lt 78), (74, .iconst 1), (75, .goto 79), (78, .iconst 0), (79, .iadd), (80, .istore 2), (81, .iinc 3 1), (84, .goto 58), (87, .iload 2), (88, .i2l), (89, .lreturn), (90, .aload 0), (91, .checkcast 261), (94, .iconst 3), (95, .iaload), (96, .i2l), (97, .lreturn), (98, .aload 0), (99, .checkcast 261), (102, .iconst 4), (103, .iaload), (104, .i2l), (105, .lreturn), (106, .aload 0), (107, .checkcast 264), (110, .iconst 48), (112, .iaload), (113, .i2l), (114, .lreturn), (115, .aload 0), (116, .getfield 266), (119, .i2l), (120, .lreturn), (121, .iconst 0), (122, .istore 3), (123, .iload 3), (124, .aload 0), (125, .checkcast 261), (128, .iconst 4), (129, .iaload), (130, .if_icmp .ge 158), (133, .iload 2), (134, .aload 0), (135, .checkcast 264), (138, .iload 3), (139, .invokestatic 110848), (142, .ifCond .eq 149), (145, .iconst 0), (146, .goto 150), (149, .iconst 1), (150, .iadd), (151, .istore 2), (152, .iinc 3 1), (155, .goto 123), (158, .iload 2), (159, .i2l), (160, .lreturn), (161, .iconst 0), (162, .istore 3), (163, .iload 3), (164, .aload 0), (165, .checkcast 261), (168, .iconst 3), (169, .iaload), (170, .if_icmp .ge 208), (173, .iload 2), (174, .aload 0), (175, .checkcast 264), (178, .iconst 4), (179, .iload 3), (180, .imul), (181, .iconst 0), (182, .iadd), (183, .iaload), (184, .i2l), (185, .goto_w 1), (186, .goto_w 3), (189, .invokestatic 94912), (192, .ifCond .eq 199), (195, .iconst 1), (196, .goto 200), (199, .iconst 0), (200, .iadd), (201, .istore 2), (202, .iinc 3 1), (205, .goto 163), (208, .iload 2), (209, .i2l), (210, .lreturn), (211, .aload 0), (212, .checkcast 261), (215, .iconst 1), (216, .iaload), (217, .i2l), (218, .lreturn), (219, .goto_w (-9000000000000000001)), (222, .lreturn)]
/-- OverInDinghyModel.status()I -/
def i236 : List xI := [(0, .aload 0), (1, .iconst 0), (2, .putfield 256), (5, .aload 0), (6, .getfield 257), (9, .ireturn)]
/-- OverInDinghy$Asks.begin(LOverInDinghy$Asks;ILOverInDinghy$Club;II)J -/
def i237 : List xI := [(0, .iload 4), (2, .iconst 12), (4, .if_icmp .le 9), (7, .goto_w 0), (8, .lreturn), (9, .aload 0), (10, .iload 1), (11, .invokevirtual 88451), (14, .iload 4), (16, .iconst 1), (17, .iadd), (18, .istore 5), (20, .aload 2), (21, .checkcast 42), (24, .iload 3), (25, .iaload), (26, .invokestatic 83264), (29, .istore 6), (31, .iload 1), (32, .tableswitch 273 10 24 #[108, 116, 142, 157, 169, 273, 273, 273, 273, 273, 184, 187, 206, 221, 247]), (108, .aload 2), (109, .checkcast 44), (112, .iload 3), (113, .iaload), (114, .i2l), (115, .lreturn), (116, .aload 0), (117, .iconst 10), (119, .aload 2), (120, .iload 3), (121, .iload 5), (123, .athrow), (126, .aload 0), (127, .iload 6), (129, .iconst 1), (130, .invokestatic 87168), (133, .aload 2), (134, .iload 3), (135, .iload 5), (137, .athrow), (140, .ladd), (141, .lreturn), (142, .goto_w 2), (145, .aload 0), (146, .iconst 11), (148, .aload 2), (149, .iload 3), (150, .iload 5), (152, .athrow), (155, .lmul), (156, .lreturn), (157, .aload 0), (158, .iconst 10), (160, .aload 2), (161, .iload 3), (162, .iload 5), (164, .athrow), (167, .lneg), (168, .lreturn), (169, .aload 0), (170, .iconst 12), (172, .aload 2), (173, .iload 3), (174, .iload 5), (176, .athrow), (179, .goto_w 1000), (182, .ladd), (183, .lreturn), (184, .iload 3), (185, .i2l), (186, .lreturn), (187, .aload 0), (188, .iconst 20), (190, .aload 2), (191, .iload 3), (192, .iload 5), (194, .athrow), (197, .aload 2), (198, .checkcast 43), (201, .iload 3), (202, .iaload), (203, .i2l), (204, .ladd), (205, .lreturn), (206, .aload 0), (207, .iconst 21), (209, .aload 2), (210, .iload 3), (211, .iload 5), (213, .athrow), (216, .goto_w 500), (219, .lsub), (220, .lreturn), (221, .aload 0), (222, .iconst 20), (224, .aload 2), (225, .iload 3), (226, .iload 5), (228, .athrow), (231, .aload 0), (232, .iload 6), (234, .iconst 0), (235, .invokestatic 87168), (238, .aload 2), (239, .iload 3), (240, .iload 5), (242, .athrow), (245, .lsub), (246, .lreturn), (247, .aload 0), (248, .iconst 20), (250, .aload 2), (251, .iload 3), (252, .iload 5), (254, .athrow), (257, .aload 0), (258, .iload 6), (260, .iconst 0), (261, .invokestatic 87168), (264, .aload 2), (265, .iload 3), (266, .iload 5), (268, .athrow), (271, .ladd), (272, .lreturn), (273, .goto_w 0), (274, .lreturn)]
/-- OverInDinghy$Asks.begin(LOverInDinghy$Asks;ILOverInDinghy$Club;II)J -/
def i238 : List xI := [(0, .iload 4), (2, .iconst 12), (4, .if_icmp .le 9), (7, .goto_w 0), (8, .lreturn), (9, .aload 0), (10, .iload 1), (11, .invokevirtual 88451), (14, .iload 4), (16, .iconst 1), (17, .iadd), (18, .istore 5), (20, .aload 2), (21, .checkcast 42), (24, .iload 3), (25, .iaload), (26, .invokestatic 83264), (29, .istore 6), (31, .iload 1), (32, .tableswitch 273 10 24 #[108, 116, 142, 157, 169, 273, 273, 273, 273, 273, 184, 187, 206, 221, 247]), (108, .aload 2), (109, .checkcast 44), (112, .iload 3), (113, .iaload), (114, .i2l), (115, .lreturn), (116, .aload 0), (117, .iconst 10), (119, .aload 2), (120, .iload 3), (121, .iload 5), (123, .invokestatic 152000), (126, .aload 0), (127, .iload 6), (129, .iconst 1), (130, .invokestatic 87168), (133, .aload 2), (134, .iload 3), (135, .iload 5), (137, .invokestatic 152000), (140, .ladd), (141, .lreturn), (142, .goto_w 2), (145, .aload 0), (146, .iconst 11), (148, .aload 2), (149, .iload 3), (150, .iload 5), (152, .invokestatic 152000), (155, .lmul), (156, .lreturn), (157, .aload 0), (158, .iconst 10), (160, .aload 2), (161, .iload 3), (162, .iload 5), (164, .invokestatic 152000), (167, .lneg), (168, .lreturn), (169, .aload 0), (170, .iconst 12), (172, .aload 2), (173, .iload 3), (174, .iload 5), (176, .invokestatic 152000), (179, .goto_w 1000), (182, .ladd), (183, .lreturn), (184, .iload 3), (185, .i2l), (186, .lreturn), (187, .aload 0), (188, .iconst 20), (190, .aload 2), (191, .iload 3), (192, .iload 5), (194, .invokestatic 152000), (197, .aload 2), (198, .checkcast 43), (201, .iload 3), (202, .iaload), (203, .i2l), (204, .ladd), (205, .lreturn), (206, .aload 0), (207, .iconst 21), (209, .aload 2), (210, .iload 3), (211, .iload 5), (213, .invokestatic 152000), (216, .goto_w 500), (219, .lsub), (220, .lreturn), (221, .aload 0), (222, .iconst 20), (224, .aload 2), (225, .iload 3), (226, .iload 5), (228, .invokestatic 152000), (231, .aload 0), (232, .iload 6), (234, .iconst 0), (235, .invokestatic 87168), (238, .aload 2), (239, .iload 3), (240, .iload 5), (242, .invokestatic 152000), (245, .lsub), (246, .lreturn), (247, .aload 0), (248, .iconst 20), (250, .aload 2), (251, .iload 3), (252, .iload 5), (254, .invokestatic 152000), (257, .aload 0), (258, .iload 6), (260, .iconst 0), (261, .invokestatic 87168), (264, .aload 2), (265, .iload 3), (266, .iload 5), (268, .invokestatic 152000), (271, .ladd), (272, .lreturn), (273, .goto_w 0), (274, .lreturn)]
/-- OverInDinghy$Asks.begin(LOverInDinghy$Asks;ILOverInDinghy$Club;II)J -/
def i239 : List xI := [(0, .iload 4), (2, .iconst 12), (4, .if_icmp .le 9), (7, .goto_w 0), (8, .lreturn), (9, .aload 0), (10, .iload 1), (11, .invokevirtual 88451), (14, .iload 4), (16, .iconst 1), (17, .iadd), (18, .istore 5), (20, .aload 2), (21, .checkcast 42), (24, .iload 3), (25, .iaload), (26, .invokestatic 83264), (29, .istore 6), (31, .iload 1), (32, .tableswitch 273 10 24 #[108, 116, 142, 157, 169, 273, 273, 273, 273, 273, 184, 187, 206, 221, 247]), (108, .aload 2), (109, .checkcast 44), (112, .iload 3), (113, .iaload), (114, .i2l), (115, .lreturn), (116, .aload 0), (117, .iconst 10), (119, .aload 2), (120, .iload 3), (121, .iload 5), (123, .invokestatic 152640), (126, .aload 0), (127, .iload 6), (129, .iconst 1), (130, .invokestatic 87168), (133, .aload 2), (134, .iload 3), (135, .iload 5), (137, .invokestatic 152640), (140, .ladd), (141, .lreturn), (142, .goto_w 2), (145, .aload 0), (146, .iconst 11), (148, .aload 2), (149, .iload 3), (150, .iload 5), (152, .invokestatic 152640), (155, .lmul), (156, .lreturn), (157, .aload 0), (158, .iconst 10), (160, .aload 2), (161, .iload 3), (162, .iload 5), (164, .invokestatic 152640), (167, .lneg), (168, .lreturn), (169, .aload 0), (170, .iconst 12), (172, .aload 2), (173, .iload 3), (174, .iload 5), (176, .invokestatic 152640), (179, .goto_w 1000), (182, .ladd), (183, .lreturn), (184, .iload 3), (185, .i2l), (186, .lreturn), (187, .aload 0), (188, .iconst 20), (190, .aload 2), (191, .iload 3), (192, .iload 5), (194, .invokestatic 152640), (197, .aload 2), (198, .checkcast 43), (201, .iload 3), (202, .iaload), (203, .i2l), (204, .ladd), (205, .lreturn), (206, .aload 0), (207, .iconst 21), (209, .aload 2), (210, .iload 3), (211, .iload 5), (213, .invokestatic 152640), (216, .goto_w 500), (219, .lsub), (220, .lreturn), (221, .aload 0), (222, .iconst 20), (224, .aload 2), (225, .iload 3), (226, .iload 5), (228, .invokestatic 152640), (231, .aload 0), (232, .iload 6), (234, .iconst 0), (235, .invokestatic 87168), (238, .aload 2), (239, .iload 3), (240, .iload 5), (242, .invokestatic 152640), (245, .lsub), (246, .lreturn), (247, .aload 0), (248, .iconst 20), (250, .aload 2), (251, .iload 3), (252, .iload 5), (254, .invokestatic 152640), (257, .aload 0), (258, .iload 6), (260, .iconst 0), (261, .invokestatic 87168), (264, .aload 2), (265, .iload 3), (266, .iload 5), (268, .invokestatic 152640), (271, .ladd), (272, .lreturn), (273, .goto_w 0), (274, .lreturn)]
/-- OverInDinghy$Asks.begin(LOverInDinghy$Asks;ILOverInDinghy$Club;II)J -/
def i240 : List xI := [(0, .iload 4), (2, .iconst 12), (4, .if_icmp .le 9), (7, .goto_w 0), (8, .lreturn), (9, .aload 0), (10, .iload 1), (11, .invokevirtual 88451), (14, .iload 4), (16, .iconst 1), (17, .iadd), (18, .istore 5), (20, .aload 2), (21, .checkcast 42), (24, .iload 3), (25, .iaload), (26, .invokestatic 83264), (29, .istore 6), (31, .iload 1), (32, .tableswitch 273 10 24 #[108, 116, 142, 157, 169, 273, 273, 273, 273, 273, 184, 187, 206, 221, 247]), (108, .aload 2), (109, .checkcast 44), (112, .iload 3), (113, .iaload), (114, .i2l), (115, .lreturn), (116, .aload 0), (117, .iconst 10), (119, .aload 2), (120, .iload 3), (121, .iload 5), (123, .invokestatic 153280), (126, .aload 0), (127, .iload 6), (129, .iconst 1), (130, .invokestatic 87168), (133, .aload 2), (134, .iload 3), (135, .iload 5), (137, .invokestatic 153280), (140, .ladd), (141, .lreturn), (142, .goto_w 2), (145, .aload 0), (146, .iconst 11), (148, .aload 2), (149, .iload 3), (150, .iload 5), (152, .invokestatic 153280), (155, .lmul), (156, .lreturn), (157, .aload 0), (158, .iconst 10), (160, .aload 2), (161, .iload 3), (162, .iload 5), (164, .invokestatic 153280), (167, .lneg), (168, .lreturn), (169, .aload 0), (170, .iconst 12), (172, .aload 2), (173, .iload 3), (174, .iload 5), (176, .invokestatic 153280), (179, .goto_w 1000), (182, .ladd), (183, .lreturn), (184, .iload 3), (185, .i2l), (186, .lreturn), (187, .aload 0), (188, .iconst 20), (190, .aload 2), (191, .iload 3), (192, .iload 5), (194, .invokestatic 153280), (197, .aload 2), (198, .checkcast 43), (201, .iload 3), (202, .iaload), (203, .i2l), (204, .ladd), (205, .lreturn), (206, .aload 0), (207, .iconst 21), (209, .aload 2), (210, .iload 3), (211, .iload 5), (213, .invokestatic 153280), (216, .goto_w 500), (219, .lsub), (220, .lreturn), (221, .aload 0), (222, .iconst 20), (224, .aload 2), (225, .iload 3), (226, .iload 5), (228, .invokestatic 153280), (231, .aload 0), (232, .iload 6), (234, .iconst 0), (235, .invokestatic 87168), (238, .aload 2), (239, .iload 3), (240, .iload 5), (242, .invokestatic 153280), (245, .lsub), (246, .lreturn), (247, .aload 0), (248, .iconst 20), (250, .aload 2), (251, .iload 3), (252, .iload 5), (254, .invokestatic 153280), (257, .aload 0), (258, .iload 6), (260, .iconst 0), (261, .invokestatic 87168), (264, .aload 2), (265, .iload 3), (266, .iload 5), (268, .invokestatic 153280), (271, .ladd), (272, .lreturn), (273, .goto_w 0), (274, .lreturn)]
/-- OverInDinghy$Asks.begin(LOverInDinghy$Asks;ILOverInDinghy$Club;II)J -/
def i241 : List xI := [(0, .iload 4), (2, .iconst 12), (4, .if_icmp .le 9), (7, .goto_w 0), (8, .lreturn), (9, .aload 0), (10, .iload 1), (11, .invokevirtual 88451), (14, .iload 4), (16, .iconst 1), (17, .iadd), (18, .istore 5), (20, .aload 2), (21, .checkcast 42), (24, .iload 3), (25, .iaload), (26, .invokestatic 83264), (29, .istore 6), (31, .iload 1), (32, .tableswitch 273 10 24 #[108, 116, 142, 157, 169, 273, 273, 273, 273, 273, 184, 187, 206, 221, 247]), (108, .aload 2), (109, .checkcast 44), (112, .iload 3), (113, .iaload), (114, .i2l), (115, .lreturn), (116, .aload 0), (117, .iconst 10), (119, .aload 2), (120, .iload 3), (121, .iload 5), (123, .invokestatic 153920), (126, .aload 0), (127, .iload 6), (129, .iconst 1), (130, .invokestatic 87168), (133, .aload 2), (134, .iload 3), (135, .iload 5), (137, .invokestatic 153920), (140, .ladd), (141, .lreturn), (142, .goto_w 2), (145, .aload 0), (146, .iconst 11), (148, .aload 2), (149, .iload 3), (150, .iload 5), (152, .invokestatic 153920), (155, .lmul), (156, .lreturn), (157, .aload 0), (158, .iconst 10), (160, .aload 2), (161, .iload 3), (162, .iload 5), (164, .invokestatic 153920), (167, .lneg), (168, .lreturn), (169, .aload 0), (170, .iconst 12), (172, .aload 2), (173, .iload 3), (174, .iload 5), (176, .invokestatic 153920), (179, .goto_w 1000), (182, .ladd), (183, .lreturn), (184, .iload 3), (185, .i2l), (186, .lreturn), (187, .aload 0), (188, .iconst 20), (190, .aload 2), (191, .iload 3), (192, .iload 5), (194, .invokestatic 153920), (197, .aload 2), (198, .checkcast 43), (201, .iload 3), (202, .iaload), (203, .i2l), (204, .ladd), (205, .lreturn), (206, .aload 0), (207, .iconst 21), (209, .aload 2), (210, .iload 3), (211, .iload 5), (213, .invokestatic 153920), (216, .goto_w 500), (219, .lsub), (220, .lreturn), (221, .aload 0), (222, .iconst 20), (224, .aload 2), (225, .iload 3), (226, .iload 5), (228, .invokestatic 153920), (231, .aload 0), (232, .iload 6), (234, .iconst 0), (235, .invokestatic 87168), (238, .aload 2), (239, .iload 3), (240, .iload 5), (242, .invokestatic 153920), (245, .lsub), (246, .lreturn), (247, .aload 0), (248, .iconst 20), (250, .aload 2), (251, .iload 3), (252, .iload 5), (254, .invokestatic 153920), (257, .aload 0), (258, .iload 6), (260, .iconst 0), (261, .invokestatic 87168), (264, .aload 2), (265, .iload 3), (266, .iload 5), (268, .invokestatic 153920), (271, .ladd), (272, .lreturn), (273, .goto_w 0), (274, .lreturn)]
/-- OverInDinghy$Asks.begin(LOverInDinghy$Asks;ILOverInDinghy$Club;II)J -/
def i242 : List xI := [(0, .iload 4), (2, .iconst 12), (4, .if_icmp .le 9), (7, .goto_w 0), (8, .lreturn), (9, .aload 0), (10, .iload 1), (11, .invokevirtual 88451), (14, .iload 4), (16, .iconst 1), (17, .iadd), (18, .istore 5), (20, .aload 2), (21, .checkcast 42), (24, .iload 3), (25, .iaload), (26, .invokestatic 83264), (29, .istore 6), (31, .iload 1), (32, .tableswitch 273 10 24 #[108, 116, 142, 157, 169, 273, 273, 273, 273, 273, 184, 187, 206, 221, 247]), (108, .aload 2), (109, .checkcast 44), (112, .iload 3), (113, .iaload), (114, .i2l), (115, .lreturn), (116, .aload 0), (117, .iconst 10), (119, .aload 2), (120, .iload 3), (121, .iload 5), (123, .invokestatic 154560), (126, .aload 0), (127, .iload 6), (129, .iconst 1), (130, .invokestatic 87168), (133, .aload 2), (134, .iload 3), (135, .iload 5), (137, .invokestatic 154560), (140, .ladd), (141, .lreturn), (142, .goto_w 2), (145, .aload 0), (146, .iconst 11), (148, .aload 2), (149, .iload 3), (150, .iload 5), (152, .invokestatic 154560), (155, .lmul), (156, .lreturn), (157, .aload 0), (158, .iconst 10), (160, .aload 2), (161, .iload 3), (162, .iload 5), (164, .invokestatic 154560), (167, .lneg), (168, .lreturn), (169, .aload 0), (170, .iconst 12), (172, .aload 2), (173, .iload 3), (174, .iload 5), (176, .invokestatic 154560), (179, .goto_w 1000), (182, .ladd), (183, .lreturn), (184, .iload 3), (185, .i2l), (186, .lreturn), (187, .aload 0), (188, .iconst 20), (190, .aload 2), (191, .iload 3), (192, .iload 5), (194, .invokestatic 154560), (197, .aload 2), (198, .checkcast 43), (201, .iload 3), (202, .iaload), (203, .i2l), (204, .ladd), (205, .lreturn), (206, .aload 0), (207, .iconst 21), (209, .aload 2), (210, .iload 3), (211, .iload 5), (213, .invokestatic 154560), (216, .goto_w 500), (219, .lsub), (220, .lreturn), (221, .aload 0), (222, .iconst 20), (224, .aload 2), (225, .iload 3), (226, .iload 5), (228, .invokestatic 154560), (231, .aload 0), (232, .iload 6), (234, .iconst 0), (235, .invokestatic 87168), (238, .aload 2), (239, .iload 3), (240, .iload 5), (242, .invokestatic 154560), (245, .lsub), (246, .lreturn), (247, .aload 0), (248, .iconst 20), (250, .aload 2), (251, .iload 3), (252, .iload 5), (254, .invokestatic 154560), (257, .aload 0), (258, .iload 6), (260, .iconst 0), (261, .invokestatic 87168), (264, .aload 2), (265, .iload 3), (266, .iload 5), (268, .invokestatic 154560), (271, .ladd), (272, .lreturn), (273, .goto_w 0), (274, .lreturn)]
/-- OverInDinghy$Asks.begin(LOverInDinghy$Asks;ILOverInDinghy$Club;II)J -/
def i243 : List xI := [(0, .iload 4), (2, .iconst 12), (4, .if_icmp .le 9), (7, .goto_w 0), (8, .lreturn), (9, .aload 0), (10, .iload 1), (11, .invokevirtual 88451), (14, .iload 4), (16, .iconst 1), (17, .iadd), (18, .istore 5), (20, .aload 2), (21, .checkcast 42), (24, .iload 3), (25, .iaload), (26, .invokestatic 83264), (29, .istore 6), (31, .iload 1), (32, .tableswitch 273 10 24 #[108, 116, 142, 157, 169, 273, 273, 273, 273, 273, 184, 187, 206, 221, 247]), (108, .aload 2), (109, .checkcast 44), (112, .iload 3), (113, .iaload), (114, .i2l), (115, .lreturn), (116, .aload 0), (117, .iconst 10), (119, .aload 2), (120, .iload 3), (121, .iload 5), (123, .invokestatic 155200), (126, .aload 0), (127, .iload 6), (129, .iconst 1), (130, .invokestatic 87168), (133, .aload 2), (134, .iload 3), (135, .iload 5), (137, .invokestatic 155200), (140, .ladd), (141, .lreturn), (142, .goto_w 2), (145, .aload 0), (146, .iconst 11), (148, .aload 2), (149, .iload 3), (150, .iload 5), (152, .invokestatic 155200), (155, .lmul), (156, .lreturn), (157, .aload 0), (158, .iconst 10), (160, .aload 2), (161, .iload 3), (162, .iload 5), (164, .invokestatic 155200), (167, .lneg), (168, .lreturn), (169, .aload 0), (170, .iconst 12), (172, .aload 2), (173, .iload 3), (174, .iload 5), (176, .invokestatic 155200), (179, .goto_w 1000), (182, .ladd), (183, .lreturn), (184, .iload 3), (185, .i2l), (186, .lreturn), (187, .aload 0), (188, .iconst 20), (190, .aload 2), (191, .iload 3), (192, .iload 5), (194, .invokestatic 155200), (197, .aload 2), (198, .checkcast 43), (201, .iload 3), (202, .iaload), (203, .i2l), (204, .ladd), (205, .lreturn), (206, .aload 0), (207, .iconst 21), (209, .aload 2), (210, .iload 3), (211, .iload 5), (213, .invokestatic 155200), (216, .goto_w 500), (219, .lsub), (220, .lreturn), (221, .aload 0), (222, .iconst 20), (224, .aload 2), (225, .iload 3), (226, .iload 5), (228, .invokestatic 155200), (231, .aload 0), (232, .iload 6), (234, .iconst 0), (235, .invokestatic 87168), (238, .aload 2), (239, .iload 3), (240, .iload 5), (242, .invokestatic 155200), (245, .lsub), (246, .lreturn), (247, .aload 0), (248, .iconst 20), (250, .aload 2), (251, .iload 3), (252, .iload 5), (254, .invokestatic 155200), (257, .aload 0), (258, .iload 6), (260, .iconst 0), (261, .invokestatic 87168), (264, .aload 2), (265, .iload 3), (266, .iload 5), (268, .invokestatic 155200), (271, .ladd), (272, .lreturn), (273, .goto_w 0), (274, .lreturn)]
def ilaw : List xI := [(0, .athrow), (3, .dup), (4, .athrow), (7, .astore 1), (8, .athrow), (11, .dup), (12, .athrow), (15, .astore 2), (16, .iconst 0), (17, .istore 3), (18, .iload 3), (19, .aload 0), (20, .arraylength), (21, .iconst 6), (23, .isub), (24, .if_icmp .gt 1181), (27, .aload 0), (28, .iload 3), (29, .iaload), (30, .iconst 31), (32, .iand), (33, .tableswitch 1175 0 29 #[168, 212, 256, 320, 344, 408, 422, 435, 469, 493, 527, 561, 595, 649, 673, 697, 731, 765, 789, 843, 897, 941, 975, 999, 1023, 1047, 1081, 1115, 1138, 1162]), (168, .aload 1), (169, .aload 0), (170, .iload 3), (171, .iconst 1), (172, .iadd), (173, .iaload), (174, .aload 0), (175, .iload 3), (176, .iconst 2), (177, .iadd), (178, .iaload), (179, .aload 0), (180, .iload 3), (181, .iconst 3), (182, .iadd), (183, .iaload), (184, .invokevirtual 6026), (187, .aload 2), (188, .aload 0), (189, .iload 3), (190, .iconst 1), (191, .iadd), (192, .iaload), (193, .aload 0), (194, .iload 3), (195, .iconst 2), (196, .iadd), (197, .iaload), (198, .aload 0), (199, .iload 3), (200, .iconst 3), (201, .iadd), (202, .iaload), (203, .invokevirtual 93707), (206, .lcmp), (207, .ifCond .eq 1175), (210, .iconst 0), (211, .ireturn), (212, .aload 1), (213, .aload 0), (214, .iload 3), (215, .iconst 1), (216, .iadd), (217, .iaload), (218, .aload 0), (219, .iload 3), (220, .iconst 2), (221, .iadd), (222, .iaload), (223, .aload 0), (224, .iload 3), (225, .iconst 3), (226, .iadd), (227, .iaload), (228, .invokevirtual 9226), (231, .aload 2), (232, .aload 0), (233, .iload 3), (234, .iconst 1), (235, .iadd), (236, .iaload), (237, .aload 0), (238, .iload 3), (239, .iconst 2), (240, .iadd), (241, .iaload), (242, .aload 0), (243, .iload 3), (244, .iconst 3), (245, .iadd), (246, .iaload), (247, .invokevirtual 96267), (250, .lcmp), (251, .ifCond .eq 1175), (254, .iconst 0), (255, .ireturn), (256, .aload 1), (257, .aload 0), (258, .iload 3), (259, .iconst 1), (260, .iadd), (261, .iaload), (262, .aload 0), (263, .iload 3), (264, .iconst 2), (265, .iadd), (266, .iaload), (267, .aload 0), (268, .iload 3), (269, .iconst 3), (270, .iadd), (271, .iaload), (272, .aload 0), (273, .iload 3), (274, .iconst 4), (275, .iadd), (276, .iaload), (277, .aload 0), (278, .iload 3), (279, .iconst 5), (280, .iadd), (281, .iaload), (282, .invokevirtual 11274), (285, .aload 2), (286, .aload 0), (287, .iload 3), (288, .iconst 1), (289, .iadd), (290, .iaload), (291, .aload 0), (292, .iload 3), (293, .iconst 2), (294, .iadd), (295, .iaload), (296, .aload 0), (297, .iload 3), (298, .iconst 3), (299, .iadd), (300, .iaload), (301, .aload 0), (302, .iload 3), (303, .iconst 4), (304, .iadd), (305, .iaload), (306, .aload 0), (307, .iload 3), (308, .iconst 5), (309, .iadd), (310, .iaload), (311, .invokevirtual 97035), (314, .lcmp), (315, .ifCond .eq 1175), (318, .iconst 0), (319, .ireturn), (320, .aload 1), (321, .aload 0), (322, .iload 3), (323, .iconst 1), (324, .iadd), (325, .iaload), (326, .invokevirtual 12938), (329, .aload 2), (330, .aload 0), (331, .iload 3), (332, .iconst 1), (333, .iadd), (334, .iaload), (335, .invokevirtual 97419), (338, .lcmp), (339, .ifCond .eq 1175), (342, .iconst 0), (343, .ireturn), (344, .aload 1), (345, .aload 0), (346, .iload 3), (347, .iconst 1), (348, .iadd), (349, .iaload), (350, .i2l), (351, .iconst 32), (353, .lshl), (354, .aload 0), (355, .iload 3), (356, .iconst 2), (357, .iadd), (358, .iaload), (359, .i2l), (360, .goto_w 4294967295), (363, .land), (364, .lor), (365, .aload 0), (366, .iload 3), (367, .iconst 3), (368, .iadd), (369, .iaload), (370, .invokevirtual 13642), (373, .aload 2), (374, .aload 0), (375, .iload 3), (376, .iconst 1), (377, .iadd), (378, .iaload), (379, .i2l), (380, .iconst 32), (382, .lshl), (383, .aload 0), (384, .iload 3), (385, .iconst 2), (386, .iadd), (387, .iaload), (388, .i2l), (389, .goto_w 4294967295), (392, .land), (393, .lor), (394, .aload 0), (395, .iload 3), (396, .iconst 3), (397, .iadd), (398, .iaload), (399, .invokevirtual 98123), (402, .lcmp), (403, .ifCond .eq 1175), (406, .iconst 0), (407, .ireturn), (408, .aload 1), (409, .invokevirtual 15434), (412, .aload 2), (413, .invokevirtual 98635), (416, .lcmp), (417, .ifCond .eq 1175), (420, .iconst 0), (421, .ireturn), (422, .aload 1), (423, .invokevirtual 33994), (426, .aload 2), (427, .invokevirtual 108875), (430, .if_icmp .eq 1175), (433, .iconst 0), (434, .ireturn), (435, .aload 1), (436, .aload 0), (437, .iload 3), (438, .iconst 1), (439, .iadd), (440, .iaload), (441, .aload 0), (442, .iload 3), (443, .iconst 2), (444, .iadd), (445, .iaload), (446, .invokevirtual 34762), (449, .aload 2), (450, .aload 0), (451, .iload 3), (452, .iconst 1), (453, .iadd), (454, .iaload), (455, .aload 0), (456, .iload 3), (457, .iconst 2), (458, .iadd), (459, .iaload), (460, .invokevirtual 109643), (463, .lcmp), (464, .ifCond .eq 1175), (467, .iconst 0), (468, .ireturn), (469, .aload 1), (470, .aload 0), (471, .iload 3), (472, .iconst 1), (473, .iadd), (474, .iaload), (475, .invokevirtual 37258), (478, .aload 2), (479, .aload 0), (480, .iload 3), (481, .iconst 1), (482, .iadd), (483, .iaload), (484, .invokevirtual 112779), (487, .lcmp), (488, .ifCond .eq 1175), (491, .iconst 0), (492, .ireturn), (493, .aload 1), (494, .aload 0), (495, .iload 3), (496, .iconst 1), (497, .iadd), (498, .iaload), (499, .aload 0), (500, .iload 3), (501, .iconst 2), (502, .iadd), (503, .iaload), (504, .invokevirtual 39882), (507, .aload 2), (508, .aload 0), (509, .iload 3), (510, .iconst 1), (511, .iadd), (512, .iaload), (513, .aload 0), (514, .iload 3), (515, .iconst 2), (516, .iadd), (517, .iaload), (518, .invokevirtual 116683), (521, .lcmp), (522, .ifCond .eq 1175), (525, .iconst 0), (526, .ireturn), (527, .aload 1), (528, .aload 0), (529, .iload 3), (530, .iconst 1), (531, .iadd), (532, .iaload), (533, .aload 0), (534, .iload 3), (535, .iconst 2), (536, .iadd), (537, .iaload), (538, .invokevirtual 52682), (541, .aload 2), (542, .aload 0), (543, .iload 3), (544, .iconst 1), (545, .iadd), (546, .iaload), (547, .aload 0), (548, .iload 3), (549, .iconst 2), (550, .iadd), (551, .iaload), (552, .invokevirtual 126283), (555, .lcmp), (556, .ifCond .eq 1175), (559, .iconst 0), (560, .ireturn), (561, .aload 1), (562, .aload 0), (563, .iload 3), (564, .iconst 1), (565, .iadd), (566, .iaload), (567, .aload 0), (568, .iload 3), (569, .iconst 2), (570, .iadd), (571, .iaload), (572, .invokevirtual 53322), (575, .aload 2), (576, .aload 0), (577, .iload 3), (578, .iconst 1), (579, .iadd), (580, .iaload), (581, .aload 0), (582, .iload 3), (583, .iconst 2), (584, .iadd), (585, .iaload), (586, .invokevirtual 126923), (589, .lcmp), (590, .ifCond .eq 1175), (593, .iconst 0), (594, .ireturn), (595, .aload 1), (596, .aload 0), (597, .iload 3), (598, .iconst 1), (599, .iadd), (600, .iaload), (601, .aload 0), (602, .iload 3), (603, .iconst 2), (604, .iadd), (605, .iaload), (606, .aload 0), (607, .iload 3), (608, .iconst 3), (609, .iadd), (610, .iaload), (611, .aload 0), (612, .iload 3), (613, .iconst 4), (614, .iadd), (615, .iaload), (616, .invokevirtual 54090), (619, .aload 2), (620, .aload 0), (621, .iload 3), (622, .iconst 1), (623, .iadd), (624, .iaload), (625, .aload 0), (626, .iload 3), (627, .iconst 2), (628, .iadd), (629, .iaload), (630, .aload 0), (631, .iload 3), (632, .iconst 3), (633, .iadd), (634, .iaload), (635, .aload 0), (636, .iload 3), (637, .iconst 4), (638, .iadd), (639, .iaload), (640, .invokevirtual 127691), (643, .lcmp), (644, .ifCond .eq 1175), (647, .iconst 0), (648, .ireturn), (649, .aload 1), (650, .aload 0), (651, .iload 3), (652, .iconst 1), (653, .iadd), (654, .iaload), (655, .invokevirtual 57098), (658, .aload 2), (659, .aload 0), (660, .iload 3), (661, .iconst 1), (662, .iadd), (663, .iaload), (664, .invokevirtual 128779), (667, .lcmp), (668, .ifCond .eq 1175), (671, .iconst 0), (672, .ireturn), (673, .aload 1), (674, .aload 0), (675, .iload 3), (676, .iconst 1), (677, .iadd), (678, .iaload), (679, .invokevirtual 58378), (682, .aload 2), (683, .aload 0), (684, .iload 3), (685, .iconst 1), (686, .iadd), (687, .iaload), (688, .invokevirtual 129419), (691, .lcmp), (692, .ifCond .eq 1175), (695, .iconst 0), (696, .ireturn), (697, .aload 1), (698, .aload 0), (699, .iload 3), (700, .iconst 1), (701, .iadd), (702, .iaload), (703, .aload 0), (704, .iload 3), (705, .iconst 2), (706, .iadd), (707, .iaload), (708, .invokevirtual 60362), (711, .aload 2), (712, .aload 0), (713, .iload 3), (714, .iconst 1), (715, .iadd), (716, .iaload), (717, .aload 0), (718, .iload 3), (719, .iconst 2), (720, .iadd), (721, .iaload), (722, .invokevirtual 130123), (725, .lcmp), (726, .ifCond .eq 1175), (729, .iconst 0), (730, .ireturn), (731, .aload 1), (732, .aload 0), (733, .iload 3), (734, .iconst 1), (735, .iadd), (736, .iaload), (737, .aload 0), (738, .iload 3), (739, .iconst 2), (740, .iadd), (741, .iaload), (742, .invokevirtual 67402), (745, .aload 2), (746, .aload 0), (747, .iload 3), (748, .iconst 1), (749, .iadd), (750, .iaload), (751, .aload 0), (752, .iload 3), (753, .iconst 2), (754, .iadd), (755, .iaload), (756, .invokevirtual 132683), (759, .lcmp), (760, .ifCond .eq 1175), (763, .iconst 0), (764, .ireturn), (765, .aload 1), (766, .aload 0), (767, .iload 3), (768, .iconst 1), (769, .iadd), (770, .iaload), (771, .invokevirtual 67978), (774, .aload 2), (775, .aload 0), (776, .iload 3), (777, .iconst 1), (778, .iadd), (779, .iaload), (780, .invokevirtual 133259), (783, .lcmp), (784, .ifCond .eq 1175), (787, .iconst 0), (788, .ireturn), (789, .aload 1), (790, .aload 0), (791, .iload 3), (792, .iconst 1), (793, .iadd), (794, .iaload), (795, .aload 0), (796, .iload 3), (797, .iconst 2), (798, .iadd), (799, .iaload), (800, .aload 0), (801, .iload 3), (802, .iconst 3), (803, .iadd), (804, .iaload), (805, .aload 0), (806, .iload 3), (807, .iconst 4), (808, .iadd), (809, .iaload), (810, .invokevirtual 70730), (813, .aload 2), (814, .aload 0), (815, .iload 3), (816, .iconst 1), (817, .iadd), (818, .iaload), (819, .aload 0), (820, .iload 3), (821, .iconst 2), (822, .iadd), (823, .iaload), (824, .aload 0), (825, .iload 3), (826, .iconst 3), (827, .iadd), (828, .iaload), (829, .aload 0), (830, .iload 3), (831, .iconst 4), (832, .iadd), (833, .iaload), (834, .invokevirtual 134731), (837, .lcmp), (838, .ifCond .eq 1175), (841, .iconst 0), (842, .ireturn), (843, .aload 1), (844, .aload 0), (845, .iload 3), (846, .iconst 1), (847, .iadd), (848, .iaload), (849, .aload 0), (850, .iload 3), (851, .iconst 2), (852, .iadd), (853, .iaload), (854, .aload 0), (855, .iload 3), (856, .iconst 3), (857, .iadd), (858, .iaload), (859, .aload 0), (860, .iload 3), (861, .iconst 4), (862, .iadd), (863, .iaload), (864, .invokevirtual 75210), (867, .aload 2), (868, .aload 0), (869, .iload 3), (870, .iconst 1), (871, .iadd), (872, .iaload), (873, .aload 0), (874, .iload 3), (875, .iconst 2), (876, .iadd), (877, .iaload), (878, .aload 0), (879, .iload 3), (880, .iconst 3), (881, .iadd), (882, .iaload), (883, .aload 0), (884, .iload 3), (885, .iconst 4), (886, .iadd), (887, .iaload), (888, .invokevirtual 137291), (891, .lcmp), (892, .ifCond .eq 1175), (895, .iconst 0), (896, .ireturn), (897, .aload 1), (898, .aload 0), (899, .iload 3), (900, .iconst 1), (901, .iadd), (902, .iaload), (903, .aload 0), (904, .iload 3), (905, .iconst 2), (906, .iadd), (907, .iaload), (908, .aload 0), (909, .iload 3), (910, .iconst 3), (911, .iadd), (912, .iaload), (913, .invokevirtual 78986), (916, .aload 2), (917, .aload 0), (918, .iload 3), (919, .iconst 1), (920, .iadd), (921, .iaload), (922, .aload 0), (923, .iload 3), (924, .iconst 2), (925, .iadd), (926, .iaload), (927, .aload 0), (928, .iload 3), (929, .iconst 3), (930, .iadd), (931, .iaload), (932, .invokevirtual 140427), (935, .lcmp), (936, .ifCond .eq 1175), (939, .iconst 0), (940, .ireturn), (941, .aload 1), (942, .aload 0), (943, .iload 3), (944, .iconst 1), (945, .iadd), (946, .iaload), (947, .aload 0), (948, .iload 3), (949, .iconst 2), (950, .iadd), (951, .iaload), (952, .invokevirtual 79562), (955, .aload 2), (956, .aload 0), (957, .iload 3), (958, .iconst 1), (959, .iadd), (960, .iaload), (961, .aload 0), (962, .iload 3), (963, .iconst 2), (964, .iadd), (965, .iaload), (966, .invokevirtual 141003), (969, .lcmp), (970, .ifCond .eq 1175), (973, .iconst 0), (974, .ireturn), (975, .aload 1), (976, .aload 0), (977, .iload 3), (978, .iconst 1), (979, .iadd), (980, .iaload), (981, .invokevirtual 80778), (984, .aload 2), (985, .aload 0), (986, .iload 3), (987, .iconst 1), (988, .iadd), (989, .iaload), (990, .invokevirtual 141579), (993, .lcmp), (994, .ifCond .eq 1175), (997, .iconst 0), (998, .ireturn), (999, .aload 1), (1000, .aload 0), (1001, .iload 3), (1002, .iconst 1), (1003, .iadd), (1004, .iaload), (1005, .invokevirtual 82058), (1008, .aload 2), (1009, .aload 0), (1010, .iload 3), (1011, .iconst 1), (1012, .iadd), (1013, .iaload), (1014, .invokevirtual 142219), (1017, .lcmp), (1018, .ifCond .eq 1175), (1021, .iconst 0), (1022, .ireturn), (1023, .aload 1), (1024, .aload 0), (1025, .iload 3), (1026, .iconst 1), (1027, .iadd), (1028, .iaload), (1029, .invokevirtual 82698), (1032, .aload 2), (1033, .aload 0), (1034, .iload 3), (1035, .iconst 1), (1036, .iadd), (1037, .iaload), (1038, .invokevirtual 142859), (1041, .lcmp), (1042, .ifCond .eq 1175), (1045, .iconst 0), (1046, .ireturn), (1047, .aload 1), (1048, .aload 0), (1049, .iload 3), (1050, .iconst 1), (1051, .iadd), (1052, .iaload), (1053, .aload 0), (1054, .iload 3), (1055, .iconst 2), (1056, .iadd), (1057, .iaload), (1058, .invokevirtual 84042), (1061, .aload 2), (1062, .aload 0), (1063, .iload 3), (1064, .iconst 1), (1065, .iadd), (1066, .iaload), (1067, .aload 0), (1068, .iload 3), (1069, .iconst 2), (1070, .iadd), (1071, .iaload), (1072, .invokevirtual 144203), (1075, .lcmp), (1076, .ifCond .eq 1175), (1079, .iconst 0), (1080, .ireturn), (1081, .aload 1), (1082, .aload 0), (1083, .iload 3), (1084, .iconst 1), (1085, .iadd), (1086, .iaload), (1087, .aload 0), (1088, .iload 3), (1089, .iconst 2), (1090, .iadd), (1091, .iaload), (1092, .invokevirtual 85962), (1095, .aload 2), (1096, .aload 0), (1097, .iload 3), (1098, .iconst 1), (1099, .iadd), (1100, .iaload), (1101, .aload 0), (1102, .iload 3), (1103, .iconst 2), (1104, .iadd), (1105, .iaload), (1106, .invokevirtual 145483), (1109, .lcmp), (1110, .ifCond .eq 1175), (1113, .iconst 0), (1114, .ireturn), (1115, .aload 1), (1116, .aload 0), (1117, .iload 3), (1118, .iconst 1), (1119, .iadd), (1120, .iaload), (1121, .invokevirtual 89098), (1124, .aload 2), (1125, .aload 0), (1126, .iload 3), (1127, .iconst 1), (1128, .iadd), (1129, .iaload), (1130, .invokevirtual 149899), (1133, .if_icmp .eq 1175), (1136, .iconst 0), (1137, .ireturn), (1138, .aload 1), (1139, .aload 0), (1140, .iload 3), (1141, .iconst 1), (1142, .iadd), (1143, .iaload), (1144, .invokevirtual 89738), (1147, .aload 2), (1148, .aload 0), (1149, .iload 3), (1150, .iconst 1), (1151, .iadd), (1152, .iaload), (1153, .invokevirtual 150539), (1156, .lcmp), (1157, .ifCond .eq 1175), (1160, .iconst 0), (1161, .ireturn), (1162, .aload 1), (1163, .invokevirtual 92234), (1166, .aload 2), (1167, .invokevirtual 151115), (1170, .if_icmp .eq 1175), (1173, .iconst 0), (1174, .ireturn), (1175, .iinc 3 6), (1178, .goto 18), (1181, .iconst 1), (1182, .ireturn)]
end
section
def gd (b : Bool) (l : List Instr) : List Instr := if b then l else []
def gdl (b : Bool) (l : List Instr) : List Instr := if b then l else []
theorem gdl_of {b : Bool} {x : Instr} {l : List Instr} (h : x ∈ gdl b l) : b = true ∧ x ∈ l := by
  unfold gdl at h
  cases b
  · simp at h
  · exact ⟨rfl, h⟩
theorem gd_of {b : Bool} {x y : Instr} (h : x ∈ gd b [y]) : b = true ∧ x = y := by
  unfold gd at h
  cases b
  · simp at h
  · exact ⟨rfl, by simpa using h⟩
def xkn (f : Nat) : Nat := match xty (f / 32) (f % 32) with | .int => 0 | .boolean => 1 | .long => 2 | _ => 3
/-- what an instruction of class o at pc may be resolved to -/
def rsv (o pc len : Nat) (raw : Instr) : List Instr := match raw with
  | .iconst n => gd (len == 1) [.iconst n]
  | .bipush n => gd (len == 2 && decide ((Int8.ofInt n).toInt32 = Int32.ofInt n)) [.iconst n]
  | .sipush n => gd (len == 3 && decide ((Int16.ofInt n).toInt32 = Int32.ofInt n)) [.iconst n]
  | .lconst n => gd (len == 1 && decide (Int64.ofNat (n : Nat) = Int64.ofInt ((n : Nat) : Int))) [.goto_w ((n : Nat) : Int)]
  | .iload_n k => gd (len == 1) [.iload k.val]
  | .iload k => gd (len == 2) [.iload k]
  | .istore_n k => gd (len == 1) [.istore k.val]
  | .istore k => gd (len == 2) [.istore k]
  | .lload_n k => gd (len == 1) [.lload k.val]
  | .lload k => gd (len == 2) [.lload k]
  | .lstore_n k => gd (len == 1) [.lstore k.val]
  | .lstore k => gd (len == 2) [.lstore k]
  | .aload_n k => gd (len == 1) [.aload k.val]
  | .aload k => gd (len == 2) [.aload k]
  | .astore_n k => gd (len == 1) [.astore k.val]
  | .astore k => gd (len == 2) [.astore k]
  | .iinc k n => gd (len == 3) [.iinc k n]
  | .ldc i => gdl (len == 2) (xlc.filterMap (fun r => if r.1 = o ∧ r.2.1 = i then some (.iconst r.2.2.1) else none)) ++ gdl (len == 2 && o == 6) ((List.range 4).filterMap (fun j => if (xtxt.getD j (0, "", 0)).1 = i then some (.getstatic (1000 + j)) else none))
  | .ldc_w i => gdl (len == 3) (xlc.filterMap (fun r => if r.1 = o ∧ r.2.1 = i then some (.iconst r.2.2.1) else none))
  | .ldc2_w i => gdl (len == 3) (xll.filterMap (fun r => if r.1 = o ∧ r.2.1 = i then some (.goto_w r.2.2.1) else none))
  | .getfield i => gdl (len == 3) (xlf.filterMap (fun r => if r.1 = o ∧ r.2.1 = i then (match xkn r.2.2.1 with | 0 => some (.getfield r.2.2.1) | 1 => some (.getfield r.2.2.1) | 2 => some (.instanceof r.2.2.1) | _ => some (.checkcast r.2.2.1)) else none)) ++ gd (len == 3 && o == 13 && i == 9) [.ldc_w 0] ++ gd (len == 3 && o == 13 && i == 15) [.ldc 0]
  | .putfield i => gdl (len == 3) (xlf.filterMap (fun r => if r.1 = o ∧ r.2.1 = i ∧ (xfd r.2.2.1).2.2.2 = false then (match xkn r.2.2.1 with | 0 => some (.putfield r.2.2.1) | 1 => some (.putstatic r.2.2.1) | 2 => some (.anewarray r.2.2.1) | _ => none) else none))
  | .getstatic i => gd (len == 3 && o == 1 && i == 17) [.getstatic 1020] ++ gd (len == 3 && o == 1 && i == 41) [.getstatic 1021] ++ gd (len == 3 && o == 1 && i == 44) [.getstatic 1022] ++ gd (len == 3 && o == 13 && i == 38) [.iconst 1] ++ gd (len == 3 && o == 13 && i == 1053) [.aconst_null]
  | .invokestatic i => gdl (len == 3) (xlm.filterMap (fun r => if r.1 = o ∧ r.2.1 = i ∧ (xe (r.2.2.1 / 640)).2.2.2.2.2.2.2 = 0 then some (.invokestatic r.2.2.1) else none)) ++ gdl (len == 3) (xla.filterMap (fun r => if r.1 = o ∧ r.2.1 = i then some .nop else none)) ++ gdl (len == 3) (xlx.filterMap (fun r => if r.1 = o ∧ r.2.1 = i then some .fadd else none)) ++ gdl (len == 3) (xly.filterMap (fun r => if r.1 = o ∧ r.2.1 = i then some .fsub else none))
  | .invokevirtual i => gdl (len == 3) (xlm.filterMap (fun r => if r.1 = o ∧ r.2.1 = i ∧ (xe (r.2.2.1 / 640)).2.2.2.2.2.2.2 = 1 then some (.invokevirtual r.2.2.1) else none))
  | .iaload => gd (len == 1) [.iaload] ++ gd (len == 1) [.aaload]
  | .baload => gd (len == 1) [.baload] ++ gd (len == 1) [.caload] ++ gd (len == 1) [.daload]
  | .bastore => gd (len == 1) [.bastore] ++ gd (len == 1) [.dastore]
  | .arraylength => gd (len == 1) [.arraylength] ++ gd (len == 1) [.castore]
  | .goto t => gd (len == 3 && decide (0 ≤ (pc : Int) + t)) [.goto ((pc : Int) + t)]
  | .ifCond c t => gd (len == 3 && decide (0 ≤ (pc : Int) + t)) [.ifCond c ((pc : Int) + t)]
  | .if_icmp c t => gd (len == 3 && decide (0 ≤ (pc : Int) + t)) [.if_icmp c ((pc : Int) + t)]
  | .tableswitch d lo hi ts => gd (decide (0 ≤ (pc : Int) + d) && ts.toList.all (fun t => decide (0 ≤ (pc : Int) + t)) && decide (hi = lo + ts.size - 1) && decide (-1000 ≤ lo) && decide (ts.size ≤ 1000)) [.tableswitch ((pc : Int) + d) lo hi (ts.map (fun t => (pc : Int) + t))]
  | .iadd => gd (len == 1) [.iadd]
  | .isub => gd (len == 1) [.isub]
  | .imul => gd (len == 1) [.imul]
  | .iand => gd (len == 1) [.iand]
  | .ior => gd (len == 1) [.ior]
  | .ixor => gd (len == 1) [.ixor]
  | .idiv => gd (len == 1) [.idiv]
  | .irem => gd (len == 1) [.irem]
  | .ishl => gd (len == 1) [.ishl]
  | .ishr => gd (len == 1) [.ishr]
  | .ineg => gd (len == 1) [.ineg]
  | .ladd => gd (len == 1) [.ladd]
  | .lsub => gd (len == 1) [.lsub]
  | .lmul => gd (len == 1) [.lmul]
  | .land => gd (len == 1) [.land]
  | .lor => gd (len == 1) [.lor]
  | .ldiv => gd (len == 1) [.ldiv]
  | .lrem => gd (len == 1) [.lrem]
  | .lneg => gd (len == 1) [.lneg]
  | .lshl => gd (len == 1) [.lshl]
  | .lshr => gd (len == 1) [.lshr]
  | .lcmp => gd (len == 1) [.lcmp]
  | .i2l => gd (len == 1) [.i2l]
  | .l2i => gd (len == 1) [.l2i]
  | .i2b => gd (len == 1) [.i2b]
  | .i2s => gd (len == 1) [.i2s]
  | .i2c => gd (len == 1) [.i2c]
  | .pop => gd (len == 1) [.pop]
  | .dup => gd (len == 1) [.dup]
  | .dup2 => gd (len == 1) [.dup2]
  | .iastore => gd (len == 1) [.iastore]
  | .ireturn => gd (len == 1) [.ireturn]
  | .lreturn => gd (len == 1) [.lreturn]
  | .areturn => gd (len == 1) [.areturn]
  | .return_ => gd (len == 1) [.return_]
  | _ => []

theorem k_iadd {G : xG} {y : Nat} {Q : xQt} {pc : Nat} {ls st : List Value} {m : xM} {a b : Int32} (hd : decode (xe y).2.1 pc = .ok (.iadd, 1)) (h : VK G y Q (pc + 1) ls (.int (a + b) :: st) m) : VK G y Q (pc) ls (.int b :: .int a :: st) m := fun p e s mid args below meth c H locs sl C hP hS hL => lv_iadd C.1 C.2.1 hd (h p e s mid args below meth c H locs sl C hP hS hL)
theorem k_isub {G : xG} {y : Nat} {Q : xQt} {pc : Nat} {ls st : List Value} {m : xM} {a b : Int32} (hd : decode (xe y).2.1 pc = .ok (.isub, 1)) (h : VK G y Q (pc + 1) ls (.int (a - b) :: st) m) : VK G y Q (pc) ls (.int b :: .int a :: st) m := fun p e s mid args below meth c H locs sl C hP hS hL => lv_isub C.1 C.2.1 hd (h p e s mid args below meth c H locs sl C hP hS hL)
theorem k_imul {G : xG} {y : Nat} {Q : xQt} {pc : Nat} {ls st : List Value} {m : xM} {a b : Int32} (hd : decode (xe y).2.1 pc = .ok (.imul, 1)) (h : VK G y Q (pc + 1) ls (.int (a * b) :: st) m) : VK G y Q (pc) ls (.int b :: .int a :: st) m := fun p e s mid args below meth c H locs sl C hP hS hL => lv_imul C.1 C.2.1 hd (h p e s mid args below meth c H locs sl C hP hS hL)
theorem k_iand {G : xG} {y : Nat} {Q : xQt} {pc : Nat} {ls st : List Value} {m : xM} {a b : Int32} (hd : decode (xe y).2.1 pc = .ok (.iand, 1)) (h : VK G y Q (pc + 1) ls (.int (a &&& b) :: st) m) : VK G y Q (pc) ls (.int b :: .int a :: st) m := fun p e s mid args below meth c H locs sl C hP hS hL => lv_iand C.1 C.2.1 hd (h p e s mid args below meth c H locs sl C hP hS hL)
theorem k_ior {G : xG} {y : Nat} {Q : xQt} {pc : Nat} {ls st : List Value} {m : xM} {a b : Int32} (hd : decode (xe y).2.1 pc = .ok (.ior, 1)) (h : VK G y Q (pc + 1) ls (.int (a ||| b) :: st) m) : VK G y Q (pc) ls (.int b :: .int a :: st) m := fun p e s mid args below meth c H locs sl C hP hS hL => lv_ior C.1 C.2.1 hd (h p e s mid args below meth c H locs sl C hP hS hL)
theorem k_ixor {G : xG} {y : Nat} {Q : xQt} {pc : Nat} {ls st : List Value} {m : xM} {a b : Int32} (hd : decode (xe y).2.1 pc = .ok (.ixor, 1)) (h : VK G y Q (pc + 1) ls (.int (a ^^^ b) :: st) m) : VK G y Q (pc) ls (.int b :: .int a :: st) m := fun p e s mid args below meth c H locs sl C hP hS hL => lv_ixor C.1 C.2.1 hd (h p e s mid args below meth c H locs sl C hP hS hL)
theorem k_ishl {G : xG} {y : Nat} {Q : xQt} {pc : Nat} {ls st : List Value} {m : xM} {a b : Int32} (hd : decode (xe y).2.1 pc = .ok (.ishl, 1)) (h : VK G y Q (pc + 1) ls (.int (a <<< (b &&& 31)) :: st) m) : VK G y Q (pc) ls (.int b :: .int a :: st) m := fun p e s mid args below meth c H locs sl C hP hS hL => lv_ishl C.1 C.2.1 hd (h p e s mid args below meth c H locs sl C hP hS hL)
theorem k_ishr {G : xG} {y : Nat} {Q : xQt} {pc : Nat} {ls st : List Value} {m : xM} {a b : Int32} (hd : decode (xe y).2.1 pc = .ok (.ishr, 1)) (h : VK G y Q (pc + 1) ls (.int (a >>> (b &&& 31)) :: st) m) : VK G y Q (pc) ls (.int b :: .int a :: st) m := fun p e s mid args below meth c H locs sl C hP hS hL => lv_ishr C.1 C.2.1 hd (h p e s mid args below meth c H locs sl C hP hS hL)
theorem k_idiv {G : xG} {y : Nat} {Q : xQt} {pc : Nat} {ls st : List Value} {m : xM} {a b : Int32} (hd : decode (xe y).2.1 pc = .ok (.idiv, 1)) (h0 : ¬ b = 0) (h : VK G y Q (pc + 1) ls (.int (a / b) :: st) m) : VK G y Q (pc) ls (.int b :: .int a :: st) m := fun p e s mid args below meth c H locs sl C hP hS hL => lv_idiv C.1 C.2.1 hd h0 (h p e s mid args below meth c H locs sl C hP hS hL)
theorem k_irem {G : xG} {y : Nat} {Q : xQt} {pc : Nat} {ls st : List Value} {m : xM} {a b : Int32} (hd : decode (xe y).2.1 pc = .ok (.irem, 1)) (h0 : ¬ b = 0) (h : VK G y Q (pc + 1) ls (.int (a - a / b * b) :: st) m) : VK G y Q (pc) ls (.int b :: .int a :: st) m := fun p e s mid args below meth c H locs sl C hP hS hL => lv_irem C.1 C.2.1 hd h0 (h p e s mid args below meth c H locs sl C hP hS hL)
theorem k_ineg {G : xG} {y : Nat} {Q : xQt} {pc : Nat} {ls st : List Value} {m : xM} {a : Int32} (hd : decode (xe y).2.1 pc = .ok (.ineg, 1)) (h : VK G y Q (pc + 1) ls (.int (-a) :: st) m) : VK G y Q (pc) ls (.int a :: st) m := fun p e s mid args below meth c H locs sl C hP hS hL => lv_ineg C.1 C.2.1 hd (h p e s mid args below meth c H locs sl C hP hS hL)
theorem k_ladd {G : xG} {y : Nat} {Q : xQt} {pc : Nat} {ls st : List Value} {m : xM} {a b : Int64} (hd : decode (xe y).2.1 pc = .ok (.ladd, 1)) (h : VK G y Q (pc + 1) ls (.long (a + b) :: st) m) : VK G y Q (pc) ls (.long b :: .long a :: st) m := fun p e s mid args below meth c H locs sl C hP hS hL => lv_ladd C.1 C.2.1 hd (h p e s mid args below meth c H locs sl C hP hS hL)
theorem k_lsub {G : xG} {y : Nat} {Q : xQt} {pc : Nat} {ls st : List Value} {m : xM} {a b : Int64} (hd : decode (xe y).2.1 pc = .ok (.lsub, 1)) (h : VK G y Q (pc + 1) ls (.long (a - b) :: st) m) : VK G y Q (pc) ls (.long b :: .long a :: st) m := fun p e s mid args below meth c H locs sl C hP hS hL => lv_lsub C.1 C.2.1 hd (h p e s mid args below meth c H locs sl C hP hS hL)
theorem k_lmul {G : xG} {y : Nat} {Q : xQt} {pc : Nat} {ls st : List Value} {m : xM} {a b : Int64} (hd : decode (xe y).2.1 pc = .ok (.lmul, 1)) (h : VK G y Q (pc + 1) ls (.long (a * b) :: st) m) : VK G y Q (pc) ls (.long b :: .long a :: st) m := fun p e s mid args below meth c H locs sl C hP hS hL => lv_lmul C.1 C.2.1 hd (h p e s mid args below meth c H locs sl C hP hS hL)
theorem k_land {G : xG} {y : Nat} {Q : xQt} {pc : Nat} {ls st : List Value} {m : xM} {a b : Int64} (hd : decode (xe y).2.1 pc = .ok (.land, 1)) (h : VK G y Q (pc + 1) ls (.long (a &&& b) :: st) m) : VK G y Q (pc) ls (.long b :: .long a :: st) m := fun p e s mid args below meth c H locs sl C hP hS hL => lv_land C.1 C.2.1 hd (h p e s mid args below meth c H locs sl C hP hS hL)
theorem k_lor {G : xG} {y : Nat} {Q : xQt} {pc : Nat} {ls st : List Value} {m : xM} {a b : Int64} (hd : decode (xe y).2.1 pc = .ok (.lor, 1)) (h : VK G y Q (pc + 1) ls (.long (a ||| b) :: st) m) : VK G y Q (pc) ls (.long b :: .long a :: st) m := fun p e s mid args below meth c H locs sl C hP hS hL => lv_lor C.1 C.2.1 hd (h p e s mid args below meth c H locs sl C hP hS hL)
theorem k_ldiv {G : xG} {y : Nat} {Q : xQt} {pc : Nat} {ls st : List Value} {m : xM} {a b : Int64} (hd : decode (xe y).2.1 pc = .ok (.ldiv, 1)) (h0 : ¬ b = 0) (h : VK G y Q (pc + 1) ls (.long (a / b) :: st) m) : VK G y Q (pc) ls (.long b :: .long a :: st) m := fun p e s mid args below meth c H locs sl C hP hS hL => lv_ldiv C.1 C.2.1 hd h0 (h p e s mid args below meth c H locs sl C hP hS hL)
theorem k_lrem {G : xG} {y : Nat} {Q : xQt} {pc : Nat} {ls st : List Value} {m : xM} {a b : Int64} (hd : decode (xe y).2.1 pc = .ok (.lrem, 1)) (h0 : ¬ b = 0) (h : VK G y Q (pc + 1) ls (.long (a - a / b * b) :: st) m) : VK G y Q (pc) ls (.long b :: .long a :: st) m := fun p e s mid args below meth c H locs sl C hP hS hL => lv_lrem C.1 C.2.1 hd h0 (h p e s mid args below meth c H locs sl C hP hS hL)
theorem k_lneg {G : xG} {y : Nat} {Q : xQt} {pc : Nat} {ls st : List Value} {m : xM} {a : Int64} (hd : decode (xe y).2.1 pc = .ok (.lneg, 1)) (h : VK G y Q (pc + 1) ls (.long (-a) :: st) m) : VK G y Q (pc) ls (.long a :: st) m := fun p e s mid args below meth c H locs sl C hP hS hL => lv_lneg C.1 C.2.1 hd (h p e s mid args below meth c H locs sl C hP hS hL)
theorem k_lshl {G : xG} {y : Nat} {Q : xQt} {pc : Nat} {ls st : List Value} {m : xM} {a : Int64} {b : Int32} (hd : decode (xe y).2.1 pc = .ok (.lshl, 1)) (h : VK G y Q (pc + 1) ls (.long (a <<< (b.toInt64 &&& 63)) :: st) m) : VK G y Q (pc) ls (.int b :: .long a :: st) m := fun p e s mid args below meth c H locs sl C hP hS hL => lv_lshl C.1 C.2.1 hd rfl (h p e s mid args below meth c H locs sl C hP hS hL)
theorem k_lshr {G : xG} {y : Nat} {Q : xQt} {pc : Nat} {ls st : List Value} {m : xM} {a : Int64} {b : Int32} (hd : decode (xe y).2.1 pc = .ok (.lshr, 1)) (h : VK G y Q (pc + 1) ls (.long (a >>> (b.toInt64 &&& 63)) :: st) m) : VK G y Q (pc) ls (.int b :: .long a :: st) m := fun p e s mid args below meth c H locs sl C hP hS hL => lv_lshr C.1 C.2.1 hd rfl (h p e s mid args below meth c H locs sl C hP hS hL)
theorem k_lcmp {G : xG} {y : Nat} {Q : xQt} {pc : Nat} {ls st : List Value} {m : xM} {a b : Int64} (hd : decode (xe y).2.1 pc = .ok (.lcmp, 1)) (h : VK G y Q (pc + 1) ls (.int (lg_cmp a b) :: st) m) : VK G y Q (pc) ls (.long b :: .long a :: st) m := fun p e s mid args below meth c H locs sl C hP hS hL => W.lcmp C.1 C.2.1 hd (h p e s mid args below meth c H locs sl C hP hS hL)
theorem k_i2l {G : xG} {y : Nat} {Q : xQt} {pc : Nat} {ls st : List Value} {m : xM} {a : Int32} (hd : decode (xe y).2.1 pc = .ok (.i2l, 1)) (h : VK G y Q (pc + 1) ls (.long a.toInt64 :: st) m) : VK G y Q (pc) ls (.int a :: st) m := fun p e s mid args below meth c H locs sl C hP hS hL => lv_i2l C.1 C.2.1 hd rfl (h p e s mid args below meth c H locs sl C hP hS hL)
theorem k_l2i {G : xG} {y : Nat} {Q : xQt} {pc : Nat} {ls st : List Value} {m : xM} {a : Int64} (hd : decode (xe y).2.1 pc = .ok (.l2i, 1)) (h : VK G y Q (pc + 1) ls (.int a.toInt32 :: st) m) : VK G y Q (pc) ls (.long a :: st) m := fun p e s mid args below meth c H locs sl C hP hS hL => lv_l2i C.1 C.2.1 hd rfl (h p e s mid args below meth c H locs sl C hP hS hL)
theorem k_i2b {G : xG} {y : Nat} {Q : xQt} {pc : Nat} {ls st : List Value} {m : xM} {a : Int32} (hd : decode (xe y).2.1 pc = .ok (.i2b, 1)) (h : VK G y Q (pc + 1) ls (.int a.toInt8.toInt32 :: st) m) : VK G y Q (pc) ls (.int a :: st) m := fun p e s mid args below meth c H locs sl C hP hS hL => lv_i2b C.1 C.2.1 hd rfl (h p e s mid args below meth c H locs sl C hP hS hL)
theorem k_i2s {G : xG} {y : Nat} {Q : xQt} {pc : Nat} {ls st : List Value} {m : xM} {a : Int32} (hd : decode (xe y).2.1 pc = .ok (.i2s, 1)) (h : VK G y Q (pc + 1) ls (.int a.toInt16.toInt32 :: st) m) : VK G y Q (pc) ls (.int a :: st) m := fun p e s mid args below meth c H locs sl C hP hS hL => lv_i2s C.1 C.2.1 hd rfl (h p e s mid args below meth c H locs sl C hP hS hL)
theorem k_i2c {G : xG} {y : Nat} {Q : xQt} {pc : Nat} {ls st : List Value} {m : xM} {a : Int32} (hd : decode (xe y).2.1 pc = .ok (.i2c, 1)) (h : VK G y Q (pc + 1) ls (.int (a.toUInt32 % 65536).toInt32 :: st) m) : VK G y Q (pc) ls (.int a :: st) m := fun p e s mid args below meth c H locs sl C hP hS hL => lv_i2c C.1 C.2.1 hd rfl (h p e s mid args below meth c H locs sl C hP hS hL)
theorem k_pop {G : xG} {y : Nat} {Q : xQt} {pc : Nat} {ls st : List Value} {m : xM} {a : Int32} (hd : decode (xe y).2.1 pc = .ok (.pop, 1)) (h : VK G y Q (pc + 1) ls (st) m) : VK G y Q (pc) ls (.int a :: st) m := fun p e s mid args below meth c H locs sl C hP hS hL => lv_pop C.1 C.2.1 hd rfl (h p e s mid args below meth c H locs sl C hP hS hL)
theorem k_dupi {G : xG} {y : Nat} {Q : xQt} {pc : Nat} {ls st : List Value} {m : xM} {a : Int32} (hd : decode (xe y).2.1 pc = .ok (.dup, 1)) (h : VK G y Q (pc + 1) ls (.int a :: .int a :: st) m) : VK G y Q (pc) ls (.int a :: st) m := fun p e s mid args below meth c H locs sl C hP hS hL => lv_dup C.1 C.2.1 hd rfl (h p e s mid args below meth c H locs sl C hP hS hL)
theorem k_dupr {G : xG} {y : Nat} {Q : xQt} {pc : Nat} {ls st : List Value} {m : xM} {a : Nat} (hd : decode (xe y).2.1 pc = .ok (.dup, 1)) (h : VK G y Q (pc + 1) ls (.ref a :: .ref a :: st) m) : VK G y Q (pc) ls (.ref a :: st) m := fun p e s mid args below meth c H locs sl C hP hS hL => lv_dup C.1 C.2.1 hd rfl (h p e s mid args below meth c H locs sl C hP hS hL)
theorem k_dup2 {G : xG} {y : Nat} {Q : xQt} {pc : Nat} {ls st : List Value} {m : xM} {a : Nat} {b : Int32} (hd : decode (xe y).2.1 pc = .ok (.dup2, 1)) (h : VK G y Q (pc + 1) ls (.int b :: .ref a :: .int b :: .ref a :: st) m) : VK G y Q (pc) ls (.int b :: .ref a :: st) m := fun p e s mid args below meth c H locs sl C hP hS hL => lv_dup2_11 C.1 C.2.1 hd rfl rfl (h p e s mid args below meth c H locs sl C hP hS hL)
theorem k_iconst {G : xG} {y : Nat} {Q : xQt} {pc : Nat} {ls st : List Value} {m : xM} {n : Int} (hd : decode (xe y).2.1 pc = .ok (.iconst n, 1)) (h : VK G y Q (pc + 1) ls (.int (Int32.ofInt n) :: st) m) : VK G y Q (pc) ls (st) m := fun p e s mid args below meth c H locs sl C hP hS hL => lv_iconst C.1 C.2.1 hd rfl (h p e s mid args below meth c H locs sl C hP hS hL)
theorem k_bipush {G : xG} {y : Nat} {Q : xQt} {pc : Nat} {ls st : List Value} {m : xM} {n : Int} (hd : decode (xe y).2.1 pc = .ok (.bipush n, 2)) (h0 : (Int8.ofInt n).toInt32 = Int32.ofInt n) (h : VK G y Q (pc + 2) ls (.int (Int32.ofInt n) :: st) m) : VK G y Q (pc) ls (st) m := fun p e s mid args below meth c H locs sl C hP hS hL => lv_bipush C.1 C.2.1 hd h0 (h p e s mid args below meth c H locs sl C hP hS hL)
theorem k_sipush {G : xG} {y : Nat} {Q : xQt} {pc : Nat} {ls st : List Value} {m : xM} {n : Int} (hd : decode (xe y).2.1 pc = .ok (.sipush n, 3)) (h0 : (Int16.ofInt n).toInt32 = Int32.ofInt n) (h : VK G y Q (pc + 3) ls (.int (Int32.ofInt n) :: st) m) : VK G y Q (pc) ls (st) m := fun p e s mid args below meth c H locs sl C hP hS hL => lv_sipush C.1 C.2.1 hd h0 (h p e s mid args below meth c H locs sl C hP hS hL)
theorem k_lconst {G : xG} {y : Nat} {Q : xQt} {pc : Nat} {ls st : List Value} {m : xM} {n : Fin 2} (hd : decode (xe y).2.1 pc = .ok (.lconst n, 1)) (h0 : Int64.ofNat (n : Nat) = Int64.ofInt ((n : Nat) : Int)) (h : VK G y Q (pc + 1) ls (.long (Int64.ofInt ((n : Nat) : Int)) :: st) m) : VK G y Q (pc) ls (st) m := fun p e s mid args below meth c H locs sl C hP hS hL => lv_lconst C.1 C.2.1 hd h0 (h p e s mid args below meth c H locs sl C hP hS hL)
theorem k_iload {G : xG} {y : Nat} {Q : xQt} {pc : Nat} {ls st : List Value} {m : xM} {i : Nat} {x : Int32} (hd : decode (xe y).2.1 pc = .ok (.iload i, 2)) (hl : ls[i]? = some (.int x)) (h : VK G y Q (pc + 2) ls (.int x :: st) m) : VK G y Q (pc) ls (st) m := fun p e s mid args below meth c H locs sl C hP hS hL => lv_iload C.1 C.2.1 hd (hL.2.2 i _ hl (by simp)) (h p e s mid args below meth c H locs sl C hP hS hL)
theorem k_iload_n {G : xG} {y : Nat} {Q : xQt} {pc : Nat} {ls st : List Value} {m : xM} {i : Fin 4} {x : Int32} (hd : decode (xe y).2.1 pc = .ok (.iload_n i, 1)) (hl : ls[i.val]? = some (.int x)) (h : VK G y Q (pc + 1) ls (.int x :: st) m) : VK G y Q (pc) ls (st) m := fun p e s mid args below meth c H locs sl C hP hS hL => lv_iload_n C.1 C.2.1 hd rfl (hL.2.2 i.val _ hl (by simp)) (h p e s mid args below meth c H locs sl C hP hS hL)
theorem k_lload {G : xG} {y : Nat} {Q : xQt} {pc : Nat} {ls st : List Value} {m : xM} {i : Nat} {x : Int64} (hd : decode (xe y).2.1 pc = .ok (.lload i, 2)) (hl : ls[i]? = some (.long x)) (h : VK G y Q (pc + 2) ls (.long x :: st) m) : VK G y Q (pc) ls (st) m := fun p e s mid args below meth c H locs sl C hP hS hL => lv_lload C.1 C.2.1 hd (hL.2.2 i _ hl (by simp)) (h p e s mid args below meth c H locs sl C hP hS hL)
theorem k_lload_n {G : xG} {y : Nat} {Q : xQt} {pc : Nat} {ls st : List Value} {m : xM} {i : Fin 4} {x : Int64} (hd : decode (xe y).2.1 pc = .ok (.lload_n i, 1)) (hl : ls[i.val]? = some (.long x)) (h : VK G y Q (pc + 1) ls (.long x :: st) m) : VK G y Q (pc) ls (st) m := fun p e s mid args below meth c H locs sl C hP hS hL => lv_lload_n C.1 C.2.1 hd rfl (hL.2.2 i.val _ hl (by simp)) (h p e s mid args below meth c H locs sl C hP hS hL)
theorem k_aload {G : xG} {y : Nat} {Q : xQt} {pc : Nat} {ls st : List Value} {m : xM} {i : Nat} {x : Nat} (hd : decode (xe y).2.1 pc = .ok (.aload i, 2)) (hl : ls[i]? = some (.ref x)) (h : VK G y Q (pc + 2) ls (.ref x :: st) m) : VK G y Q (pc) ls (st) m := fun p e s mid args below meth c H locs sl C hP hS hL => lv_aload C.1 C.2.1 hd (hL.2.2 i _ hl (by simp)) (h p e s mid args below meth c H locs sl C hP hS hL)
theorem k_aload_n {G : xG} {y : Nat} {Q : xQt} {pc : Nat} {ls st : List Value} {m : xM} {i : Fin 4} {x : Nat} (hd : decode (xe y).2.1 pc = .ok (.aload_n i, 1)) (hl : ls[i.val]? = some (.ref x)) (h : VK G y Q (pc + 1) ls (.ref x :: st) m) : VK G y Q (pc) ls (st) m := fun p e s mid args below meth c H locs sl C hP hS hL => lv_aload_n C.1 C.2.1 hd rfl (hL.2.2 i.val _ hl (by simp)) (h p e s mid args below meth c H locs sl C hP hS hL)
theorem k_if_eq {G : xG} {y : Nat} {Q : xQt} {pc : Nat} {ls st : List Value} {m : xM} {x : Int32} {t : Int} (hd : decode (xe y).2.1 pc = .ok (.ifCond .eq t, 3)) (h0 : 0 ≤ (pc : Int) + t) (ht : x = 0 → VK G y Q (((pc : Int) + t).toNat) ls (st) m) (hf : ¬ x = 0 → VK G y Q (pc + 3) ls (st) m) : VK G y Q (pc) ls (.int x :: st) m := fun p e s mid args below meth c H locs sl C hP hS hL => lv_if_eq C.1 C.2.1 hd (Int.toNat_of_nonneg h0).symm (fun q => ht q p e s mid args below meth c H locs sl C hP hS hL) (fun q => hf q p e s mid args below meth c H locs sl C hP hS hL)
theorem k_icmp_eq {G : xG} {y : Nat} {Q : xQt} {pc : Nat} {ls st : List Value} {m : xM} {x y9 : Int32} {t : Int} (hd : decode (xe y).2.1 pc = .ok (.if_icmp .eq t, 3)) (h0 : 0 ≤ (pc : Int) + t) (ht : x = y9 → VK G y Q (((pc : Int) + t).toNat) ls (st) m) (hf : ¬ x = y9 → VK G y Q (pc + 3) ls (st) m) : VK G y Q (pc) ls (.int y9 :: .int x :: st) m := fun p e s mid args below meth c H locs sl C hP hS hL => lv_icmp_eq C.1 C.2.1 hd (Int.toNat_of_nonneg h0).symm (fun q => ht q p e s mid args below meth c H locs sl C hP hS hL) (fun q => hf q p e s mid args below meth c H locs sl C hP hS hL)
theorem k_if_ne {G : xG} {y : Nat} {Q : xQt} {pc : Nat} {ls st : List Value} {m : xM} {x : Int32} {t : Int} (hd : decode (xe y).2.1 pc = .ok (.ifCond .ne t, 3)) (h0 : 0 ≤ (pc : Int) + t) (ht : ¬ x = 0 → VK G y Q (((pc : Int) + t).toNat) ls (st) m) (hf : x = 0 → VK G y Q (pc + 3) ls (st) m) : VK G y Q (pc) ls (.int x :: st) m := fun p e s mid args below meth c H locs sl C hP hS hL => lv_if_ne C.1 C.2.1 hd (Int.toNat_of_nonneg h0).symm (fun q => ht q p e s mid args below meth c H locs sl C hP hS hL) (fun q => hf q p e s mid args below meth c H locs sl C hP hS hL)
theorem k_icmp_ne {G : xG} {y : Nat} {Q : xQt} {pc : Nat} {ls st : List Value} {m : xM} {x y9 : Int32} {t : Int} (hd : decode (xe y).2.1 pc = .ok (.if_icmp .ne t, 3)) (h0 : 0 ≤ (pc : Int) + t) (ht : ¬ x = y9 → VK G y Q (((pc : Int) + t).toNat) ls (st) m) (hf : x = y9 → VK G y Q (pc + 3) ls (st) m) : VK G y Q (pc) ls (.int y9 :: .int x :: st) m := fun p e s mid args below meth c H locs sl C hP hS hL => lv_icmp_ne C.1 C.2.1 hd (Int.toNat_of_nonneg h0).symm (fun q => ht q p e s mid args below meth c H locs sl C hP hS hL) (fun q => hf q p e s mid args below meth c H locs sl C hP hS hL)
theorem k_if_lt {G : xG} {y : Nat} {Q : xQt} {pc : Nat} {ls st : List Value} {m : xM} {x : Int32} {t : Int} (hd : decode (xe y).2.1 pc = .ok (.ifCond .lt t, 3)) (h0 : 0 ≤ (pc : Int) + t) (ht : x < 0 → VK G y Q (((pc : Int) + t).toNat) ls (st) m) (hf : ¬ x < 0 → VK G y Q (pc + 3) ls (st) m) : VK G y Q (pc) ls (.int x :: st) m := fun p e s mid args below meth c H locs sl C hP hS hL => lv_if_lt C.1 C.2.1 hd (Int.toNat_of_nonneg h0).symm (fun q => ht q p e s mid args below meth c H locs sl C hP hS hL) (fun q => hf q p e s mid args below meth c H locs sl C hP hS hL)
theorem k_icmp_lt {G : xG} {y : Nat} {Q : xQt} {pc : Nat} {ls st : List Value} {m : xM} {x y9 : Int32} {t : Int} (hd : decode (xe y).2.1 pc = .ok (.if_icmp .lt t, 3)) (h0 : 0 ≤ (pc : Int) + t) (ht : x < y9 → VK G y Q (((pc : Int) + t).toNat) ls (st) m) (hf : ¬ x < y9 → VK G y Q (pc + 3) ls (st) m) : VK G y Q (pc) ls (.int y9 :: .int x :: st) m := fun p e s mid args below meth c H locs sl C hP hS hL => lv_icmp_lt C.1 C.2.1 hd (Int.toNat_of_nonneg h0).symm (fun q => ht q p e s mid args below meth c H locs sl C hP hS hL) (fun q => hf q p e s mid args below meth c H locs sl C hP hS hL)
theorem k_if_ge {G : xG} {y : Nat} {Q : xQt} {pc : Nat} {ls st : List Value} {m : xM} {x : Int32} {t : Int} (hd : decode (xe y).2.1 pc = .ok (.ifCond .ge t, 3)) (h0 : 0 ≤ (pc : Int) + t) (ht : 0 ≤ x → VK G y Q (((pc : Int) + t).toNat) ls (st) m) (hf : ¬ 0 ≤ x → VK G y Q (pc + 3) ls (st) m) : VK G y Q (pc) ls (.int x :: st) m := fun p e s mid args below meth c H locs sl C hP hS hL => lv_if_ge C.1 C.2.1 hd (Int.toNat_of_nonneg h0).symm (fun q => ht q p e s mid args below meth c H locs sl C hP hS hL) (fun q => hf q p e s mid args below meth c H locs sl C hP hS hL)
theorem k_icmp_ge {G : xG} {y : Nat} {Q : xQt} {pc : Nat} {ls st : List Value} {m : xM} {x y9 : Int32} {t : Int} (hd : decode (xe y).2.1 pc = .ok (.if_icmp .ge t, 3)) (h0 : 0 ≤ (pc : Int) + t) (ht : y9 ≤ x → VK G y Q (((pc : Int) + t).toNat) ls (st) m) (hf : ¬ y9 ≤ x → VK G y Q (pc + 3) ls (st) m) : VK G y Q (pc) ls (.int y9 :: .int x :: st) m := fun p e s mid args below meth c H locs sl C hP hS hL => lv_icmp_ge C.1 C.2.1 hd (Int.toNat_of_nonneg h0).symm (fun q => ht q p e s mid args below meth c H locs sl C hP hS hL) (fun q => hf q p e s mid args below meth c H locs sl C hP hS hL)
theorem k_if_gt {G : xG} {y : Nat} {Q : xQt} {pc : Nat} {ls st : List Value} {m : xM} {x : Int32} {t : Int} (hd : decode (xe y).2.1 pc = .ok (.ifCond .gt t, 3)) (h0 : 0 ≤ (pc : Int) + t) (ht : 0 < x → VK G y Q (((pc : Int) + t).toNat) ls (st) m) (hf : ¬ 0 < x → VK G y Q (pc + 3) ls (st) m) : VK G y Q (pc) ls (.int x :: st) m := fun p e s mid args below meth c H locs sl C hP hS hL => lv_if_gt C.1 C.2.1 hd (Int.toNat_of_nonneg h0).symm (fun q => ht q p e s mid args below meth c H locs sl C hP hS hL) (fun q => hf q p e s mid args below meth c H locs sl C hP hS hL)
theorem k_icmp_gt {G : xG} {y : Nat} {Q : xQt} {pc : Nat} {ls st : List Value} {m : xM} {x y9 : Int32} {t : Int} (hd : decode (xe y).2.1 pc = .ok (.if_icmp .gt t, 3)) (h0 : 0 ≤ (pc : Int) + t) (ht : y9 < x → VK G y Q (((pc : Int) + t).toNat) ls (st) m) (hf : ¬ y9 < x → VK G y Q (pc + 3) ls (st) m) : VK G y Q (pc) ls (.int y9 :: .int x :: st) m := fun p e s mid args below meth c H locs sl C hP hS hL => lv_icmp_gt C.1 C.2.1 hd (Int.toNat_of_nonneg h0).symm (fun q => ht q p e s mid args below meth c H locs sl C hP hS hL) (fun q => hf q p e s mid args below meth c H locs sl C hP hS hL)
theorem k_if_le {G : xG} {y : Nat} {Q : xQt} {pc : Nat} {ls st : List Value} {m : xM} {x : Int32} {t : Int} (hd : decode (xe y).2.1 pc = .ok (.ifCond .le t, 3)) (h0 : 0 ≤ (pc : Int) + t) (ht : x ≤ 0 → VK G y Q (((pc : Int) + t).toNat) ls (st) m) (hf : ¬ x ≤ 0 → VK G y Q (pc + 3) ls (st) m) : VK G y Q (pc) ls (.int x :: st) m := fun p e s mid args below meth c H locs sl C hP hS hL => lv_if_le C.1 C.2.1 hd (Int.toNat_of_nonneg h0).symm (fun q => ht q p e s mid args below meth c H locs sl C hP hS hL) (fun q => hf q p e s mid args below meth c H locs sl C hP hS hL)
theorem k_icmp_le {G : xG} {y : Nat} {Q : xQt} {pc : Nat} {ls st : List Value} {m : xM} {x y9 : Int32} {t : Int} (hd : decode (xe y).2.1 pc = .ok (.if_icmp .le t, 3)) (h0 : 0 ≤ (pc : Int) + t) (ht : x ≤ y9 → VK G y Q (((pc : Int) + t).toNat) ls (st) m) (hf : ¬ x ≤ y9 → VK G y Q (pc + 3) ls (st) m) : VK G y Q (pc) ls (.int y9 :: .int x :: st) m := fun p e s mid args below meth c H locs sl C hP hS hL => lv_icmp_le C.1 C.2.1 hd (Int.toNat_of_nonneg h0).symm (fun q => ht q p e s mid args below meth c H locs sl C hP hS hL) (fun q => hf q p e s mid args below meth c H locs sl C hP hS hL)
theorem k_goto {G : xG} {y : Nat} {Q : xQt} {pc : Nat} {ls st : List Value} {m : xM} {t : Int} (hd : decode (xe y).2.1 pc = .ok (.goto t, 3)) (h0 : 0 ≤ (pc : Int) + t) (h : VK G y Q (((pc : Int) + t).toNat) ls (st) m) : VK G y Q (pc) ls (st) m := fun p e s mid args below meth c H locs sl C hP hS hL => lv_goto C.1 C.2.1 hd (Int.toNat_of_nonneg h0).symm (h p e s mid args below meth c H locs sl C hP hS hL)
end
section
theorem okst_of : ∀ {ls : List Value} {i : Nat}, okst ls i → i < ls.length ∧ (∀ j v, j + 1 = i → ls[j]? = some v → ¬ v.category = 2)
  | [], _, h => h.elim
  | _ :: _, 0, _ => ⟨by simp, fun j v h => by omega⟩
  | v0 :: [], 1, h => by cases v0 <;> exact h.elim
  | v0 :: v1 :: l, 1, h => by
    refine ⟨by simp, fun j v hj hv => ?_⟩
    have : j = 0 := by omega
    subst this
    simp at hv
    subst hv
    cases v0 <;> first | exact h.elim | (simp [Value.category])
  | v0 :: l, n + 2, h => by
    have h' : okst l (n + 1) := by cases v0 <;> exact h
    obtain ⟨h1, h2⟩ := okst_of h'
    refine ⟨by simp; omega, fun j v hj hv => ?_⟩
    cases j with
    | zero => omega
    | succ j => exact h2 j v (by omega) (by simpa using hv)
def prs1 (G : xG) (ls : List Value) (i : Nat) : Option (Nat × Value) := if ls.getD i Value.null = Value.null then Option.none else Option.some (i, cv G (ls.getD i Value.null))
def prs (G : xG) (ls : List Value) : List (Nat × Value) := (List.range ls.length).filterMap (prs1 G ls)
theorem prs_mem {G : xG} {ls : List Value} {i : Nat} {v : Value} (h : ls[i]? = some v) (hv : v ≠ .null) : (i, cv G v) ∈ prs G ls := by
  refine List.mem_filterMap.mpr ⟨i, List.mem_range.mpr (List.getElem?_eq_some_iff.mp h).1, ?_⟩
  have e : ls.getD i Value.null = v := by rw [List.getD_eq_getElem?_getD, h]; rfl
  unfold prs1
  rw [e, if_neg hv]
theorem lrp_has {G : xG} {ls : List Value} {sl : Array Slot} {nL : Nat} (h : lrp G ls sl nL) : lv_has sl nL (prs G ls) := by
  refine ⟨h.1, h.2.1, fun q hq => ?_⟩
  obtain ⟨i, hi, hq⟩ := List.mem_filterMap.mp hq
  have hl : i < ls.length := List.mem_range.mp hi
  have e : ls.getD i Value.null = ls[i] := by rw [List.getD_eq_getElem?_getD, List.getElem?_eq_getElem hl]; rfl
  unfold prs1 at hq
  rw [e] at hq
  by_cases hn : ls[i] = Value.null
  · rw [if_pos hn] at hq; cases hq
  · rw [if_neg hn] at hq
    cases hq
    exact h.2.2 i ls[i] (List.getElem?_eq_getElem hl) hn
theorem cv_cat (G : xG) {v : Value} (h : v ≠ .null) : (cv G v).category = v.category := by cases v <;> first | rfl | exact absurd rfl h
theorem lrp_set1 {G : xG} {ls : List Value} {sl' : Array Slot} {nL i : Nat} {w : Value} (hw : w ≠ .null) (ho : okst ls i) (h : lv_has sl' nL ((i, cv G w) :: (prs G ls).filter (fun q => !(q.1 == i) && !(q.1 + 1 == i && q.2.category == 2)))) : lrp G (ls.set i w) sl' nL := by
  obtain ⟨o1, o2⟩ := okst_of ho
  refine ⟨h.1, h.2.1, fun j v hj hv => ?_⟩
  by_cases e : j = i
  · subst e
    rw [List.getElem?_set_self o1] at hj
    cases hj
    exact h.2.2 _ List.mem_cons_self
  · rw [List.getElem?_set_ne (Ne.symm e)] at hj
    refine h.2.2 (j, cv G v) (List.mem_cons_of_mem _ (List.mem_filter.mpr ⟨prs_mem hj hv, ?_⟩))
    have h2 : ¬ (j + 1 = i ∧ (cv G v).category = 2) := fun q => o2 j v q.1 hj (by rw [← cv_cat G hv]; exact q.2)
    simp only [Bool.and_eq_true, Bool.not_eq_true', beq_eq_false_iff_ne, ne_eq, Bool.and_eq_false_iff]
    refine ⟨e, ?_⟩
    by_cases q : j + 1 = i
    · exact Or.inr fun z => h2 ⟨q, z⟩
    · exact Or.inl q
theorem lrp_set2 {G : xG} {ls : List Value} {sl' : Array Slot} {nL i : Nat} {x : Int64} (ho : okst ls i) (h1 : i + 1 < ls.length) (h : lv_has sl' nL ((i, Value.long x) :: (prs G ls).filter (fun q => !(q.1 == i) && (!(q.1 == i + 1) && !(q.1 + 1 == i && q.2.category == 2))))) : lrp G ((ls.set i (.long x)).set (i + 1) .null) sl' nL := by
  obtain ⟨o1, o2⟩ := okst_of ho
  refine ⟨h.1, h.2.1, fun j v hj hv => ?_⟩
  by_cases e1 : j = i + 1
  · subst e1
    rw [List.getElem?_set_self (by simp; exact h1)] at hj
    cases hj
    exact absurd rfl hv
  rw [List.getElem?_set_ne (Ne.symm e1)] at hj
  by_cases e : j = i
  · subst e
    rw [List.getElem?_set_self o1] at hj
    cases hj
    exact h.2.2 _ List.mem_cons_self
  · rw [List.getElem?_set_ne (Ne.symm e)] at hj
    refine h.2.2 (j, cv G v) (List.mem_cons_of_mem _ (List.mem_filter.mpr ⟨prs_mem hj hv, ?_⟩))
    have h2 : ¬ (j + 1 = i ∧ (cv G v).category = 2) := fun q => o2 j v q.1 hj (by rw [← cv_cat G hv]; exact q.2)
    simp only [Bool.and_eq_true, Bool.not_eq_true', beq_eq_false_iff_ne, ne_eq, Bool.and_eq_false_iff]
    refine ⟨e, e1, ?_⟩
    by_cases q : j + 1 = i
    · exact Or.inr fun z => h2 ⟨q, z⟩
    · exact Or.inl q
theorem lrp_lt {G : xG} {ls : List Value} {sl : Array Slot} {nL i : Nat} (hn : ls.length ≤ nL) (ho : okst ls i) : i < nL := Nat.lt_of_lt_of_le (okst_of ho).1 hn
section ST
variable {G : xG} {y : Nat} {Q : xQt} {pc : Nat} {ls st : List Value} {m : xM}
theorem k_istore {i : Nat} {x : Int32} (hn : ls.length ≤ (xe y).2.2.1) (hd : decode (xe y).2.1 pc = .ok (.istore i, 2)) (ho : okst ls i) (h : VK G y Q (pc + 2) (ls.set i (.int x)) st m) : VK G y Q pc ls (.int x :: st) m :=
  fun p e s mid args below meth c H locs sl C hP hS hL => lv_istore C.1 C.2.1 hd (lrp_has hL) (lrp_lt (G := G) (sl := sl) hn ho) rfl (fun sl' hl' => h p e s mid args below meth c H locs sl' C hP hS (lrp_set1 (w := .int x) (by simp) ho hl'))
theorem k_istore_n {i : Fin 4} {x : Int32} (hn : ls.length ≤ (xe y).2.2.1) (hd : decode (xe y).2.1 pc = .ok (.istore_n i, 1)) (ho : okst ls i.val) (h : VK G y Q (pc + 1) (ls.set i.val (.int x)) st m) : VK G y Q pc ls (.int x :: st) m :=
  fun p e s mid args below meth c H locs sl C hP hS hL => lv_istore_n C.1 C.2.1 hd rfl (lrp_has hL) (lrp_lt (G := G) (sl := sl) hn ho) rfl (fun sl' hl' => h p e s mid args below meth c H locs sl' C hP hS (lrp_set1 (w := .int x) (by simp) ho hl'))
theorem k_astore {i : Nat} {x : Nat} (hn : ls.length ≤ (xe y).2.2.1) (hd : decode (xe y).2.1 pc = .ok (.astore i, 2)) (ho : okst ls i) (h : VK G y Q (pc + 2) (ls.set i (.ref x)) st m) : VK G y Q pc ls (.ref x :: st) m :=
  fun p e s mid args below meth c H locs sl C hP hS hL => lv_astore C.1 C.2.1 hd (lrp_has hL) (lrp_lt (G := G) (sl := sl) hn ho) rfl (fun sl' hl' => h p e s mid args below meth c H locs sl' C hP hS (lrp_set1 (w := .ref x) (by simp) ho hl'))
theorem k_astore_n {i : Fin 4} {x : Nat} (hn : ls.length ≤ (xe y).2.2.1) (hd : decode (xe y).2.1 pc = .ok (.astore_n i, 1)) (ho : okst ls i.val) (h : VK G y Q (pc + 1) (ls.set i.val (.ref x)) st m) : VK G y Q pc ls (.ref x :: st) m :=
  fun p e s mid args below meth c H locs sl C hP hS hL => lv_astore_n C.1 C.2.1 hd rfl (lrp_has hL) (lrp_lt (G := G) (sl := sl) hn ho) rfl (fun sl' hl' => h p e s mid args below meth c H locs sl' C hP hS (lrp_set1 (w := .ref x) (by simp) ho hl'))
theorem k_lstore {i : Nat} {x : Int64} (hn : ls.length ≤ (xe y).2.2.1) (hd : decode (xe y).2.1 pc = .ok (.lstore i, 2)) (ho : okst ls i) (h1 : i + 1 < ls.length) (h : VK G y Q (pc + 2) ((ls.set i (.long x)).set (i + 1) .null) st m) : VK G y Q pc ls (.long x :: st) m :=
  fun p e s mid args below meth c H locs sl C hP hS hL => lv_lstore C.1 C.2.1 hd (lrp_has hL) (Nat.lt_of_lt_of_le h1 hn) rfl (fun sl' hl' => h p e s mid args below meth c H locs sl' C hP hS (lrp_set2 ho h1 hl'))
theorem k_lstore_n {i : Fin 4} {x : Int64} (hn : ls.length ≤ (xe y).2.2.1) (hd : decode (xe y).2.1 pc = .ok (.lstore_n i, 1)) (ho : okst ls i.val) (h1 : i.val + 1 < ls.length) (h : VK G y Q (pc + 1) ((ls.set i.val (.long x)).set (i.val + 1) .null) st m) : VK G y Q pc ls (.long x :: st) m :=
  fun p e s mid args below meth c H locs sl C hP hS hL => lv_lstore_n C.1 C.2.1 hd rfl (lrp_has hL) (Nat.lt_of_lt_of_le h1 hn) rfl (fun sl' hl' => h p e s mid args below meth c H locs sl' C hP hS (lrp_set2 ho h1 hl'))
theorem k_iinc {i : Nat} {n : Int} {x : Int32} (hn : ls.length ≤ (xe y).2.2.1) (hd : decode (xe y).2.1 pc = .ok (.iinc i n, 3)) (hl : ls[i]? = some (.int x)) (ho : okst ls i) (h : VK G y Q (pc + 3) (ls.set i (.int (x + Int32.ofInt n))) st m) : VK G y Q pc ls st m := by
  intro p e s mid args below meth c H locs sl C hP hS hL
  obtain ⟨k, hk⟩ := List.getElem?_of_mem (prs_mem (G := G) hl (by simp))
  exact lv_iinc C.1 C.2.1 hd (lrp_has hL) hk rfl (lrp_lt (G := G) (sl := sl) hn ho) rfl (fun sl' hl' => h p e s mid args below meth c H locs sl' C hP hS (lrp_set1 (w := .int (x + Int32.ofInt n)) (by simp) ho hl'))
theorem C_word {p : Program} {s : State} {mid : MethodId} {args : Array Value} {meth : Method} {c : Code} (C : Cx G y p s mid args meth c) {w : Cond} {i : Nat} (h : lw_tbl[i]? = some w) (g : goodWord w = true) : w.before args s = true := C.2.2.2.2.2.2.1 w (xg_of (List.mem_of_getElem? h) g)
theorem k_ldc {i : Nat} {v : Int32} {q : Nat} (hd : decode (xe y).2.1 pc = .ok (.ldc i, 2)) (hc : lw_tbl[q]? = some (Cond.constant (cn (xe y).2.2.2.2.1) i v)) (h : VK G y Q (pc + 2) ls (.int v :: st) m) : VK G y Q pc ls st m :=
  fun p e s mid args below meth c H locs sl C hP hS hL => W.ldc C.1 C.2.1 C.2.2.2.2.2.1 (C_word C hc rfl) rfl hd (h p e s mid args below meth c H locs sl C hP hS hL)
theorem k_ldc_w {i : Nat} {v : Int32} {q : Nat} (hd : decode (xe y).2.1 pc = .ok (.ldc_w i, 3)) (hc : lw_tbl[q]? = some (Cond.constant (cn (xe y).2.2.2.2.1) i v)) (h : VK G y Q (pc + 3) ls (.int v :: st) m) : VK G y Q pc ls st m :=
  fun p e s mid args below meth c H locs sl C hP hS hL => lv_ldcw C.1 C.2.1 C.2.2.2.2.2.1 (C_word C hc rfl) hd (h p e s mid args below meth c H locs sl C hP hS hL)
theorem k_ldc2 {i : Nat} {v : Int64} {q : Nat} (hd : decode (xe y).2.1 pc = .ok (.ldc2_w i, 3)) (hc : lw_tbl[q]? = some (Cond.constantLong (cn (xe y).2.2.2.2.1) i v)) (h : VK G y Q (pc + 3) ls (.long v :: st) m) : VK G y Q pc ls st m :=
  fun p e s mid args below meth c H locs sl C hP hS hL => W.ldc2 C.1 C.2.1 C.2.2.2.2.2.1 (C_word C hc rfl) rfl hd (h p e s mid args below meth c H locs sl C hP hS hL)
theorem k_ldcs {j : Nat} (hj : j < 4) (ho : (xe y).2.2.2.2.1 = 6) (hd : decode (xe y).2.1 pc = .ok (.ldc (xtxt.getD j (0, "", 0)).1, 2)) (h : VK G y Q (pc + 2) ls (.ref (1000 + j) :: st) m) : VK G y Q pc ls st m := by
  intro p e s mid args below meth c H locs sl C hP hS hL
  have hown : s.vm.findClass "OverInDinghy$Reader" = some mid.cls := by
    have := C.2.2.2.2.2.1
    rw [ho] at this
    exact this
  exact va_ldcS C.1 C.2.1 hown (C.2.2.2.2.2.2.2.2.1.2.2.2.1 j hj) hd (h p e s mid args below meth c H locs sl C hP hS hL)
theorem k_gets {i j : Nat} (hj : j < 3) (ho : (xe y).2.2.2.2.1 = 1) (hlk : Cond.fieldLink "OverInDinghy$Asks" i "OverInDinghy$Asks" (xsta.getD j "") "[I" ∈ lw_tbl) (hd : decode (xe y).2.1 pc = .ok (.getstatic i, 3)) (h : VK G y Q (pc + 3) ls (.ref (1020 + j) :: st) m) : VK G y Q pc ls st m := by
  intro p e s mid args below meth c H locs sl C hP hS hL
  have hown : s.vm.findClass "OverInDinghy$Asks" = some mid.cls := by
    have := C.2.2.2.2.2.1
    rw [ho] at this
    exact this
  exact va_gets C.1 C.2.1 (C.2.2.2.2.2.2.2.2.1.1 j hj).1 hS hown (C.2.2.2.2.2.2.1 _ (xg_of hlk rfl)) (fun _ h => h) hd (h p e s mid args below meth c H locs sl C hP hS hL)
theorem k_getc (ho : (xe y).2.2.2.2.1 = 13) (hd : decode (xe y).2.1 pc = .ok (.getstatic 38, 3)) (h : VK G y Q (pc + 3) ls (.int 1 :: st) m) : VK G y Q pc ls st m := by
  intro p e s mid args below meth c H locs sl C hP hS hL
  have hown : s.vm.findClass "java/lang/String" = some mid.cls := by
    have := C.2.2.2.2.2.1
    rw [ho] at this
    exact this
  exact va_gets C.1 C.2.1 C.2.2.2.2.2.2.2.2.1.2.1 hS hown (C.2.2.2.2.2.2.1 _ (xg_of xs3 rfl)) (fun _ h => h) hd (h p e s mid args below meth c H locs sl C hP hS hL)
theorem k_getf0 (ho : (xe y).2.2.2.2.1 = 13) (hd : decode (xe y).2.1 pc = .ok (.getstatic 1053, 3)) (h : VK G y Q (pc + 3) ls (.null :: st) m) : VK G y Q pc ls st m := by
  intro p e s mid args below meth c H locs sl C hP hS hL
  have hown : s.vm.findClass "java/lang/String" = some mid.cls := by
    have := C.2.2.2.2.2.1
    rw [ho] at this
    exact this
  exact va_gets C.1 C.2.1 C.2.2.2.2.2.2.2.2.1.2.2.1 hS hown (C.2.2.2.2.2.2.1 _ (xg_of xs4 rfl)) (fun _ h => h) hd (h p e s mid args below meth c H locs sl C hP hS hL)
theorem sh50 {k : Nat} (h : (sh k).1 = 50) : ∃ i, i < 4 ∧ k = 1000 + i := by
  unfold sh at h
  split at h
  · rename_i h1
    by_cases h2 : k < 101
    · exfalso
      have : ∀ j, j < 101 → ¬ (xshL.getD j (99, 0)).1 = 50 := by decide +kernel
      exact this k h2 h
    · rw [List.getD_eq_getElem?_getD, List.getElem?_eq_none (by rw [xshL_len]; omega)] at h
      simp at h
  · split at h
    · exact ⟨k - 1000, by omega, by omega⟩
    · exfalso
      split at h
      · simp at h
      · split at h
        · simp at h
        · split at h
          · simp at h
          · split at h
            · simp at h
            · split at h <;> simp at h
theorem sh51 {k : Nat} (h : (sh k).1 = 51) : ∃ i, i < 4 ∧ k = 1010 + i ∧ (sh k).2 = (xtxt.getD i (0, "", 0)).2.2 := by
  have hk : 1010 ≤ k ∧ k < 1014 := by
    unfold sh at h
    split at h
    · rename_i h1
      by_cases h2 : k < 101
      · exfalso
        have : ∀ j, j < 101 → ¬ (xshL.getD j (99, 0)).1 = 51 := by decide +kernel
        exact this k h2 h
      · rw [List.getD_eq_getElem?_getD, List.getElem?_eq_none (by rw [xshL_len]; omega)] at h
        simp at h
    · split at h
      · simp at h
      · split at h
        · simp at h
        · split at h
          · omega
          · split at h
            · omega
            · exfalso
              split at h
              · simp at h
              · split at h <;> simp at h
  refine ⟨k - 1010, by omega, by omega, ?_⟩
  rcases (show k = 1010 ∨ k = 1011 ∨ k = 1012 ∨ k = 1013 by omega) with rfl | rfl | rfl | rfl <;> rfl
theorem sh52 {k : Nat} (h : (sh k).1 = 52) : ∃ i, i < 3 ∧ k = 1020 + i ∧ (sh k).2 = 6 := by
  have hk : 1020 ≤ k ∧ k < 1023 := by
    unfold sh at h
    split at h
    · rename_i h1
      by_cases h2 : k < 101
      · exfalso
        have : ∀ j, j < 101 → ¬ (xshL.getD j (99, 0)).1 = 52 := by decide +kernel
        exact this k h2 h
      · rw [List.getD_eq_getElem?_getD, List.getElem?_eq_none (by rw [xshL_len]; omega)] at h
        simp at h
    · split at h
      · simp at h
      · split at h
        · simp at h
        · split at h
          · simp at h
          · split at h
            · simp at h
            · split at h
              · simp at h
              · split at h
                · omega
                · simp at h
  refine ⟨k - 1020, by omega, by omega, ?_⟩
  rcases (show k = 1020 ∨ k = 1021 ∨ k = 1022 by omega) with rfl | rfl | rfl <;> rfl
theorem k_strv {k : Nat} (hk : (sh k).1 = 50) (ho : (xe y).2.2.2.2.1 = 13) (hd : decode (xe y).2.1 pc = .ok (.getfield 9, 3)) (h : VK G y Q (pc + 3) ls (.ref (k + 10) :: st) m) : VK G y Q pc ls (.ref k :: st) m := by
  intro p e s mid args below meth c H locs sl C hP hS hL
  obtain ⟨i, hi, rfl⟩ := sh50 hk
  have hown : s.vm.findClass "java/lang/String" = some mid.cls := by
    have := C.2.2.2.2.2.1
    rw [ho] at this
    exact this
  have h5 := (C.2.2.2.2.2.2.2.2.1.2.2.2.2 i hi).2.2.1
  rw [show 1010 + i = 1000 + i + 10 by omega] at h5
  exact vk_getf C.1 C.2.1 h5 hS hown (C.2.2.2.2.2.2.1 _ (xg_of xs5 rfl)) (fun _ h => h) hd (h p e s mid args below meth c H locs sl C hP hS hL)
theorem k_strc {k : Nat} (hk : (sh k).1 = 50) (ho : (xe y).2.2.2.2.1 = 13) (hd : decode (xe y).2.1 pc = .ok (.getfield 15, 3)) (h : VK G y Q (pc + 3) ls (.int 0 :: st) m) : VK G y Q pc ls (.ref k :: st) m := by
  intro p e s mid args below meth c H locs sl C hP hS hL
  obtain ⟨i, hi, rfl⟩ := sh50 hk
  have hown : s.vm.findClass "java/lang/String" = some mid.cls := by
    have := C.2.2.2.2.2.1
    rw [ho] at this
    exact this
  exact vk_getf C.1 C.2.1 (C.2.2.2.2.2.2.2.2.1.2.2.2.2 i hi).2.1 hS hown (C.2.2.2.2.2.2.1 _ (xg_of xs6 rfl)) (fun _ h => h) hd (h p e s mid args below meth c H locs sl C hP hS hL)
end ST
end
section
theorem xcell_arr {G : xG} {m : xM} {k : Nat} (h : (sh k).1 = 0) : xcell G m k = .inl (G.2.2.2.1, (sh k).2, .inl (m.1 k)) := by unfold xcell; rw [h]
theorem xcell_byt {G : xG} {m : xM} {k : Nat} (h : (sh k).1 = 1) : xcell G m k = .inl (G.2.2.2.2.1, (sh k).2, .inl (m.1 k)) := by unfold xcell; rw [h]
theorem xcell_boo {G : xG} {m : xM} {k : Nat} (h : (sh k).1 = 2) : xcell G m k = .inl (G.2.2.2.2.2.1, (sh k).2, .inl (m.1 k)) := by unfold xcell; rw [h]
theorem xcell_obj {G : xG} {m : xM} {k t : Nat} (h : (sh k).1 = t + 3) : xcell G m k = .inr (t, (List.range (xN t)).map (xfv G m k t)) := by unfold xcell; rw [h]
theorem wl_up {G : xG} {m : xM} {k : Nat} {f : Nat → Int32} {e : va_E} (hk : k < 101) (he : e = xcell G (xa m k f) k) : (wl G m).set k (G.2.2.1 k, e) = wl G (xa m k f) := wl_set hk (fun q hq => ⟨by simp [xa, hq], rfl⟩) he
theorem wl_upL {G : xG} {m : xM} {k : Nat} {f : Nat → Int64} {e : va_E} (hk : k < 101) (he : e = xcell G (xb m k f) k) : (wl G m).set k (G.2.2.1 k, e) = wl G (xb m k f) := wl_set hk (fun q hq => ⟨rfl, by simp [xb, hq]⟩) he
theorem xa_at (m : xM) (k : Nat) (f : Nat → Int32) : (xa m k f).1 k = f := by simp [xa]
theorem xb_at (m : xM) (k : Nat) (f : Nat → Int64) : (xb m k f).2 k = f := by simp [xb]
theorem xf_of {o i f : Nat} {q4 : Nat} (h : (o, i, f, q4) ∈ xlf) : ∃ q : vw_C, xcl[f / 32]? = some q ∧ f % 32 < q.2.2 ∧ xN (f / 32) = q.2.2 ∧ lw_tbl[q4]? = some (Cond.fieldLink (cn o) i (q.2.1 (f % 32)).1 (q.2.1 (f % 32)).2.1 (q.2.1 (f % 32)).2.2.1) ∧ xfd f = q.2.1 (f % 32) := by
  obtain ⟨h1, q, hq, hj⟩ := xlf_ok _ h
  have e : xfd f = q.2.1 (f % 32) := by unfold xfd; simp only at hq; rw [hq]
  refine ⟨q, hq, hj, ?_, by rw [← e]; exact h1, e⟩
  unfold xN
  rw [List.getD_eq_getElem?_getD]
  simp only at hq
  rw [hq]
  rfl
section SF
variable {G : xG} {y : Nat} {Q : xQt} {pc : Nat} {ls st : List Value} {m : xM}
theorem k_get {i f q4 k : Nat} {v : Value} (hl : ((xe y).2.2.2.2.1, i, f, q4) ∈ xlf) (hk : (sh k).1 = f / 32 + 3) (hv : xfv G m k (f / 32) (f % 32) = cv G v) (hd : decode (xe y).2.1 pc = .ok (.getfield i, 3)) (h : VK G y Q (pc + 3) ls (v :: st) m) : VK G y Q pc ls (.ref k :: st) m := by
  intro p e s mid args below meth c H locs sl C hP hS hL
  obtain ⟨q, hq, hj, hN, hlk, -⟩ := xf_of hl
  have hci : f / 32 < 9 := by
    have := (List.getElem?_eq_some_iff.mp hq).1
    simpa [xcl] using this
  have hk1 : k < 101 := sh_lt (by omega)
  refine va_get (ci := f / 32) (C := q.1) (T := q.2.1) (N := q.2.2) (v := cv G v) C.1 C.2.1 C.2.2.2.2.2.2.1 (xcl_ok _ _ hq).1 C.2.2.2.2.2.1 C.2.2.2.2.2.2.2.1 hP k (fs := (List.range (xN (f / 32))).map (xfv G m k (f / 32))) (by rw [wl_at G m hk1, xcell_obj hk]) hq (f % 32) hj (C_word C hlk rfl) (fun _ h => h) ?_ hd (h p e s mid args below meth c H locs sl C hP hS hL)
  rw [List.getElem?_map, List.getElem?_range (by rw [hN]; exact hj), ← hv]
  rfl
theorem fs_set {G : xG} {m : xM} {k t j : Nat} {x : Int32} (ht : xty t j = .int ∨ xty t j = .boolean) : ((List.range (xN t)).map (xfv G m k t)).set j (.int x) = (List.range (xN t)).map (xfv G (xa m k (upd (m.1 k) j x)) k t) := by
  apply List.ext_getElem?
  intro i
  by_cases hi : i = j
  · subst hi
    by_cases hl : i < xN t
    · rw [List.getElem?_set_self (by simp [hl]), List.getElem?_map, List.getElem?_range hl]
      have : xfv G (xa m k (upd (m.1 k) i x)) k t i = .int x := by
        unfold xfv
        rcases ht with e | e <;> rw [e] <;> simp [xa_at, upd]
      rw [Option.map_some, this]
    · rw [List.getElem?_eq_none (by simp; omega), List.getElem?_eq_none (by simp; omega)]
  · rw [List.getElem?_set_ne (Ne.symm hi)]
    by_cases hl : i < xN t
    · rw [List.getElem?_map, List.getElem?_map, List.getElem?_range hl]
      have : xfv G (xa m k (upd (m.1 k) j x)) k t i = xfv G m k t i := by
        unfold xfv
        rw [xa_at]
        simp only [upd, if_neg hi]
        rfl
      simp only [Option.map_some, this]
    · rw [List.getElem?_eq_none (by simp; omega), List.getElem?_eq_none (by simp; omega)]
theorem fs_setL {G : xG} {m : xM} {k t j : Nat} {x : Int64} (ht : xty t j = .long) : ((List.range (xN t)).map (xfv G m k t)).set j (.long x) = (List.range (xN t)).map (xfv G (xb m k (vp_updL (m.2 k) j x)) k t) := by
  apply List.ext_getElem?
  intro i
  by_cases hi : i = j
  · subst hi
    by_cases hl : i < xN t
    · rw [List.getElem?_set_self (by simp [hl]), List.getElem?_map, List.getElem?_range hl]
      have : xfv G (xb m k (vp_updL (m.2 k) i x)) k t i = .long x := by
        unfold xfv
        rw [ht]
        simp [xb_at, vp_updL]
      rw [Option.map_some, this]
    · rw [List.getElem?_eq_none (by simp; omega), List.getElem?_eq_none (by simp; omega)]
  · rw [List.getElem?_set_ne (Ne.symm hi)]
    by_cases hl : i < xN t
    · rw [List.getElem?_map, List.getElem?_map, List.getElem?_range hl]
      have : xfv G (xb m k (vp_updL (m.2 k) j x)) k t i = xfv G m k t i := by
        unfold xfv
        rw [xb_at]
        simp only [vp_updL, if_neg hi]
        rfl
      simp only [Option.map_some, this]
    · rw [List.getElem?_eq_none (by simp; omega), List.getElem?_eq_none (by simp; omega)]
theorem k_putv {i f q4 k : Nat} {v : Value} {m' : xM} (hl : ((xe y).2.2.2.2.1, i, f, q4) ∈ xlf) (hf : (xfd f).2.2.2 = false) (hk : (sh k).1 = f / 32 + 3) (hcv : cv G v = v) (hn : narrow (xty (f / 32) (f % 32)) v = v) (hfit : fits (xty (f / 32) (f % 32)) v = true) (hm : ((List.range (xN (f / 32))).map (xfv G m k (f / 32))).set (f % 32) v = (List.range (xN (f / 32))).map (xfv G m' k (f / 32))) (ho : ∀ q, q ≠ k → m'.1 q = m.1 q ∧ m'.2 q = m.2 q) (hd : decode (xe y).2.1 pc = .ok (.putfield i, 3)) (h : VK G y Q (pc + 3) ls st m') : VK G y Q pc ls (v :: .ref k :: st) m := by
  intro p e s mid args below meth c H locs sl C hP hS hL
  obtain ⟨q, hq, hj, hN, hlk, hfd⟩ := xf_of hl
  have hci : f / 32 < 9 := by
    have := (List.getElem?_eq_some_iff.mp hq).1
    simpa [xcl] using this
  have hk1 : k < 101 := sh_lt (by omega)
  have hok := xcl_ok _ _ hq
  show W p G.1 e (rmd (ht y)) s mid args below meth c H locs 0 0 _ (F0 mid pc sl (cv G v :: .ref (G.2.2.1 k) :: st.map (cv G)))
  rw [hcv]
  refine va_put (ci := f / 32) (C := q.1) (T := q.2.1) (N := q.2.2) (ty := xty (f / 32) (f % 32)) C.1 C.2.1 C.2.2.2.2.2.2.1 hok.1 (xty (f / 32)) hok.2.1 hok.2.2 C.2.2.2.2.2.1 C.2.2.2.2.2.2.2.1 hP (xD C.2.2.2.2.2.2.2.2.2 m) hS k (fs := (List.range (xN (f / 32))).map (xfv G m k (f / 32))) (by rw [wl_at G m hk1, xcell_obj hk]) hq (f % 32) hj (C_word C hlk rfl) (fun _ h => h) (by rw [← hfd]; exact hf) (hok.2.1 _ hj) hn hfit (by simp [hN]; exact hj) hd (fun H1 locs1 hP1 hD1 hS1 => ?_)
  rw [wl_set hk1 ho (by rw [hm, xcell_obj hk])] at hP1
  exact h p e s mid args below meth c H1 locs1 sl C hP1 hS1 hL
theorem k_puti {i f q4 k : Nat} {x : Int32} (hl : ((xe y).2.2.2.2.1, i, f, q4) ∈ xlf) (hf : (xfd f).2.2.2 = false) (hk : (sh k).1 = f / 32 + 3) (ht : xty (f / 32) (f % 32) = .int) (hd : decode (xe y).2.1 pc = .ok (.putfield i, 3)) (h : VK G y Q (pc + 3) ls st (xa m k (upd (m.1 k) (f % 32) x))) : VK G y Q pc ls (.int x :: .ref k :: st) m :=
  k_putv hl hf hk rfl (by rw [ht]; rfl) (by rw [ht]; rfl) (fs_set (Or.inl ht)) (fun q hq => ⟨by simp [xa, hq], rfl⟩) hd h
theorem k_putz {i f q4 k : Nat} {x : Int32} (hx : x = 0 ∨ x = 1) (hl : ((xe y).2.2.2.2.1, i, f, q4) ∈ xlf) (hf : (xfd f).2.2.2 = false) (hk : (sh k).1 = f / 32 + 3) (ht : xty (f / 32) (f % 32) = .boolean) (hd : decode (xe y).2.1 pc = .ok (.putfield i, 3)) (h : VK G y Q (pc + 3) ls st (xa m k (upd (m.1 k) (f % 32) x))) : VK G y Q pc ls (.int x :: .ref k :: st) m :=
  k_putv hl hf hk rfl (by rw [ht]; rcases hx with rfl | rfl <;> decide) (by rw [ht]; rcases hx with rfl | rfl <;> decide) (fs_set (Or.inr ht)) (fun q hq => ⟨by simp [xa, hq], rfl⟩) hd h
theorem k_putl {i f q4 k : Nat} {x : Int64} (hl : ((xe y).2.2.2.2.1, i, f, q4) ∈ xlf) (hf : (xfd f).2.2.2 = false) (hk : (sh k).1 = f / 32 + 3) (ht : xty (f / 32) (f % 32) = .long) (hd : decode (xe y).2.1 pc = .ok (.putfield i, 3)) (h : VK G y Q (pc + 3) ls st (xb m k (vp_updL (m.2 k) (f % 32) x))) : VK G y Q pc ls (.long x :: .ref k :: st) m :=
  k_putv hl hf hk rfl (by rw [ht]; rfl) (by rw [ht]; rfl) (fs_setL ht) (fun q hq => ⟨rfl, by simp [xb, hq]⟩) hd h
theorem k_iald {k : Nat} {i : Int32} (hk : (sh k).1 = 0) (hi : vp_in i (sh k).2) (hd : decode (xe y).2.1 pc = .ok (.iaload, 1)) (h : VK G y Q (pc + 1) ls (.int (m.1 k i.toNatClampNeg) :: st) m) : VK G y Q pc ls (.int i :: .ref k :: st) m :=
  fun p e s mid args below meth c H locs sl C hP hS hL => va_iald C.1 C.2.1 C.2.2.2.2.2.2.2.1 hP k 0 (by rw [wl_at G m (sh_lt (by omega)), xcell_arr hk]) rfl hi hd (h p e s mid args below meth c H locs sl C hP hS hL)
theorem k_bald {k : Nat} {i : Int32} (hk : (sh k).1 = 1) (hi : vp_in i (sh k).2) (hd : decode (xe y).2.1 pc = .ok (.baload, 1)) (h : VK G y Q (pc + 1) ls (.int (m.1 k i.toNatClampNeg) :: st) m) : VK G y Q pc ls (.int i :: .ref k :: st) m :=
  fun p e s mid args below meth c H locs sl C hP hS hL => va_bald C.1 C.2.1 C.2.2.2.2.2.2.2.1 hP k 1 (by rw [wl_at G m (sh_lt (by omega)), xcell_byt hk]) rfl hi hd (h p e s mid args below meth c H locs sl C hP hS hL)
theorem k_zald {k : Nat} {i : Int32} (hk : (sh k).1 = 2) (hi : vp_in i (sh k).2) (hd : decode (xe y).2.1 pc = .ok (.baload, 1)) (h : VK G y Q (pc + 1) ls (.int (m.1 k i.toNatClampNeg) :: st) m) : VK G y Q pc ls (.int i :: .ref k :: st) m :=
  fun p e s mid args below meth c H locs sl C hP hS hL => va_zald C.1 C.2.1 C.2.2.2.2.2.2.2.1 hP k 2 (by rw [wl_at G m (sh_lt (by omega)), xcell_boo hk]) rfl hi hd (h p e s mid args below meth c H locs sl C hP hS hL)
theorem k_iast {k : Nat} {i x : Int32} (hk : (sh k).1 = 0) (hi : vp_in i (sh k).2) (hd : decode (xe y).2.1 pc = .ok (.iastore, 1)) (h : VK G y Q (pc + 1) ls st (xa m k (upd (m.1 k) i.toNatClampNeg x))) : VK G y Q pc ls (.int x :: .int i :: .ref k :: st) m :=
  fun p e s mid args below meth c H locs sl C hP hS hL => va_iast C.1 C.2.1 C.2.2.2.2.2.2.2.1 hP (xD C.2.2.2.2.2.2.2.2.2 m) hS k 0 (by rw [wl_at G m (sh_lt (by omega)), xcell_arr hk]) rfl hi hd (fun H1 locs1 hP1 _ hS1 => by
    rw [wl_up (sh_lt (by omega)) (by rw [xcell_arr hk, xa_at])] at hP1
    exact h p e s mid args below meth c H1 locs1 sl C hP1 hS1 hL)
theorem k_bast {k : Nat} {i x : Int32} (hk : (sh k).1 = 1) (hi : vp_in i (sh k).2) (hd : decode (xe y).2.1 pc = .ok (.bastore, 1)) (h : VK G y Q (pc + 1) ls st (xa m k (upd (m.1 k) i.toNatClampNeg x.toInt8.toInt32))) : VK G y Q pc ls (.int x :: .int i :: .ref k :: st) m :=
  fun p e s mid args below meth c H locs sl C hP hS hL => va_bast C.1 C.2.1 C.2.2.2.2.2.2.2.1 hP (xD C.2.2.2.2.2.2.2.2.2 m) hS k 1 (by rw [wl_at G m (sh_lt (by omega)), xcell_byt hk]) rfl hi hd (fun H1 locs1 hP1 _ hS1 => by
    rw [vp_nar_byte, wl_up (sh_lt (by omega)) (by rw [xcell_byt hk, xa_at])] at hP1
    exact h p e s mid args below meth c H1 locs1 sl C hP1 hS1 hL)
theorem k_zast {k : Nat} {i x : Int32} (hx : x = 0 ∨ x = 1) (hk : (sh k).1 = 2) (hi : vp_in i (sh k).2) (hd : decode (xe y).2.1 pc = .ok (.bastore, 1)) (h : VK G y Q (pc + 1) ls st (xa m k (upd (m.1 k) i.toNatClampNeg x))) : VK G y Q pc ls (.int x :: .int i :: .ref k :: st) m :=
  fun p e s mid args below meth c H locs sl C hP hS hL => va_zast C.1 C.2.1 C.2.2.2.2.2.2.2.1 hP (xD C.2.2.2.2.2.2.2.2.2 m) hS k 2 (by rw [wl_at G m (sh_lt (by omega)), xcell_boo hk]) rfl hi hd (fun H1 locs1 hP1 _ hS1 => by
    have e9 : vp_nar .boolean x = x := by rcases hx with rfl | rfl <;> decide
    rw [e9, wl_up (sh_lt (by omega)) (by rw [xcell_boo hk, xa_at])] at hP1
    exact h p e s mid args below meth c H1 locs1 sl C hP1 hS1 hL)
theorem k_alen {k : Nat} (hk : (sh k).1 = 0) (hd : decode (xe y).2.1 pc = .ok (.arraylength, 1)) (h : VK G y Q (pc + 1) ls (.int (Int32.ofNat (sh k).2) :: st) m) : VK G y Q pc ls (.ref k :: st) m :=
  fun p e s mid args below meth c H locs sl C hP hS hL => va_alen (x := ((sh k).2, .inl (m.1 k))) C.1 C.2.1 C.2.2.2.2.2.2.2.1 hP k 0 (by rw [wl_at G m (sh_lt (by omega)), xcell_arr hk]) rfl rfl hd (h p e s mid args below meth c H locs sl C hP hS hL)
theorem k_alenX {k : Nat} (hk : (sh k).1 = 51) (hd : decode (xe y).2.1 pc = .ok (.arraylength, 1)) (h : VK G y Q (pc + 1) ls (.int (Int32.ofNat (sh k).2) :: st) m) : VK G y Q pc ls (.ref k :: st) m := by
  intro p e s mid args below meth c H locs sl C hP hS hL
  obtain ⟨i, hi, rfl, hl⟩ := sh51 hk
  obtain ⟨cell, h1, h2, h3, h4, h5, h6, h7⟩ := ((C.2.2.2.2.2.2.2.2.1.2.2.2.2 i hi).2.2.2).kept hS.2.1
  rw [hl] at h
  exact W.alen (n := Int32.ofNat _) C.1 C.2.1 h1 h2 h5 rfl rfl hd (h p e s mid args below meth c H locs sl C hP hS hL)
theorem k_baldX {k : Nat} {j : Int32} (hk : (sh k).1 = 51) (hj : vp_in j (sh k).2) (hd : decode (xe y).2.1 pc = .ok (.baload, 1)) (h : VK G y Q (pc + 1) ls (.int (xc k j.toNatClampNeg) :: st) m) : VK G y Q pc ls (.int j :: .ref k :: st) m := by
  intro p e s mid args below meth c H locs sl C hP hS hL
  obtain ⟨i, hi, rfl, hl⟩ := sh51 hk
  rw [hl] at hj
  obtain ⟨cell, h1, h2, h3, h4, h5, h6, h7⟩ := ((C.2.2.2.2.2.2.2.2.1.2.2.2.2 i hi).2.2.2).kept hS.2.1
  have hlt : j.toNatClampNeg < (xtxt.getD i (0, "", 0)).2.2 := Nat.not_le.mp fun q => hj (Or.inr q)
  exact W.bald (v := .int (xc (1010 + i) j.toNatClampNeg)) C.1 C.2.1 h1 h2 h3 (fun q => q.elim (fun q => hj (Or.inl q)) (fun q => by omega)) (h6 _ hlt) rfl rfl hd (h p e s mid args below meth c H locs sl C hP hS hL)
theorem k_ialdX {k : Nat} {j : Int32} (hk : (sh k).1 = 52) (hj : vp_in j (sh k).2) (hd : decode (xe y).2.1 pc = .ok (.iaload, 1)) (h : VK G y Q (pc + 1) ls (.int (xc k j.toNatClampNeg) :: st) m) : VK G y Q pc ls (.int j :: .ref k :: st) m := by
  intro p e s mid args below meth c H locs sl C hP hS hL
  obtain ⟨i, hi, rfl, hl⟩ := sh52 hk
  rw [hl] at hj
  obtain ⟨cell, h1, h2, h3, h4, h5, h6, h7⟩ := ((C.2.2.2.2.2.2.2.2.1.1 i hi).2).kept hS.2.1
  have hlt : j.toNatClampNeg < 6 := Nat.not_le.mp fun q => hj (Or.inr q)
  exact W.iald (v := .int (xc (1020 + i) j.toNatClampNeg)) C.1 C.2.1 h1 h2 h3 (fun q => q.elim (fun q => hj (Or.inl q)) (fun q => by omega)) (h6 _ hlt) rfl rfl hd (h p e s mid args below meth c H locs sl C hP hS hL)
end SF
end
section
theorem xla_na : Cond.native arraycopyName ∈ lw_tbl := List.mem_of_getElem? (i := 430) (by decide +kernel)
theorem xla_st : Cond.static arraycopyName ∈ lw_tbl := List.mem_of_getElem? (i := 429) (by decide +kernel)
theorem xla_in : Cond.initialized "java/lang/System" ∈ lw_tbl := List.mem_of_getElem? (i := 88) (by decide +kernel)
theorem nfw : nativeFrameWords "java/lang/System" "arraycopy" 5 = 7 := by decide +kernel
theorem wt_sum {G : xG} : ∀ (st : List Value), ((st.map (cv G)).map fun v => v.category).sum ≤ wt st
  | [] => by simp [wt]
  | v :: l => by
    have ih := wt_sum (G := G) l
    have c2 : ∀ v : Value, v.category ≤ 2 := fun v => by rcases lv_cat v with h | h <;> omega
    have h2 := c2 (cv G v)
    rw [List.map_cons, List.map_cons, List.sum_cons]
    generalize ((l.map (cv G)).map fun v => v.category).sum = S at ih
    cases v with
    | int x =>
      have h3 : (cv G (.int x)).category = 1 := rfl
      have h4 : wt (.int x :: l) = 1 + wt l := rfl
      omega
    | ref x =>
      have h3 : (cv G (.ref x)).category = 1 := rfl
      have h4 : wt (.ref x :: l) = 1 + wt l := rfl
      omega
    | long x => have h4 : wt (.long x :: l) = 2 + wt l := rfl; omega
    | float x => have h4 : wt (.float x :: l) = 2 + wt l := rfl; omega
    | double x => have h4 : wt (.double x :: l) = 2 + wt l := rfl; omega
    | null => have h4 : wt (.null :: l) = 2 + wt l := rfl; omega
    | retAddr x => have h4 : wt (.retAddr x :: l) = 2 + wt l := rfl; omega
theorem lt4_sum {G : xG} {st : List Value} (h : lt4 st) : ((st.map (cv G)).map fun v => v.category).sum ≤ 8 := Nat.le_trans (wt_sum st) h
section SC
variable {G : xG} {y : Nat} {Q : xQt} {pc : Nat} {ls st : List Value} {m : xM}
theorem k_max {i q : Nat} {a b : Int32} (hl : ((xe y).2.2.2.2.1, i, q) ∈ xlx) (h4 : lt4 st) (hd : decode (xe y).2.1 pc = .ok (.invokestatic i, 3)) (h : VK G y Q (pc + 3) ls (.int (if a < b then b else a) :: st) m) : VK G y Q pc ls (.int b :: .int a :: st) m :=
  fun p e s mid args below meth c H locs sl C hP hS hL => va_mmax C.1 C.2.1 (by rw [C.2.2.1, hL.1]) C.2.2.2.2.2.1 (C_word C (xlx_ok _ hl) rfl) (C.2.2.2.2.2.2.1 _ (xg_of xlx_st rfl)) (C.2.2.2.2.2.2.1 _ (xg_of (List.mem_of_getElem? (i := 93) (by decide +kernel)) rfl)) (C.2.2.2.2.2.2.1 _ (xg_of xlx_co rfl)) (by show 1 ≤ ht y + 1; omega) (by have := lt4_sum (G := G) h4; show _ ≤ 64 * (ht y + 1); omega) (Nat.le_refl 0) (Nat.le_refl 0) hd (h p e s mid args below meth c H locs sl C hP hS hL)
theorem k_min {i q : Nat} {a b : Int32} (hl : ((xe y).2.2.2.2.1, i, q) ∈ xly) (h4 : lt4 st) (hd : decode (xe y).2.1 pc = .ok (.invokestatic i, 3)) (h : VK G y Q (pc + 3) ls (.int (if b < a then b else a) :: st) m) : VK G y Q pc ls (.int b :: .int a :: st) m :=
  fun p e s mid args below meth c H locs sl C hP hS hL => va_mmin C.1 C.2.1 (by rw [C.2.2.1, hL.1]) C.2.2.2.2.2.1 (C_word C (xly_ok _ hl) rfl) (C.2.2.2.2.2.2.1 _ (xg_of xly_st rfl)) (C.2.2.2.2.2.2.1 _ (xg_of (List.mem_of_getElem? (i := 93) (by decide +kernel)) rfl)) (C.2.2.2.2.2.2.1 _ (xg_of xly_co rfl)) (by show 1 ≤ ht y + 1; omega) (by have := lt4_sum (G := G) h4; show _ ≤ 64 * (ht y + 1); omega) (Nat.le_refl 0) (Nat.le_refl 0) hd (h p e s mid args below meth c H locs sl C hP hS hL)
theorem k_copy {i q a b : Nat} {sp dp n : Int32} (hl : ((xe y).2.2.2.2.1, i, q) ∈ xla) (h4 : lt4 st) (ha : (sh a).1 = 0) (hb : (sh b).1 = 0) (h1 : ¬ sp < 0) (h2 : ¬ dp < 0) (h3 : ¬ n < 0) (h5 : sp.toNatClampNeg + n.toNatClampNeg ≤ (sh a).2) (h6 : dp.toNatClampNeg + n.toNatClampNeg ≤ (sh b).2) (hd : decode (xe y).2.1 pc = .ok (.invokestatic i, 3)) (h : VK G y Q (pc + 3) ls st (xa m b (va_cpy (m.1 a) (m.1 b) sp.toNatClampNeg dp.toNatClampNeg n.toNatClampNeg))) : VK G y Q pc ls (.int n :: .int dp :: .ref b :: .int sp :: .ref a :: st) m :=
  fun p e s mid args below meth c H locs sl C hP hS hL => va_copyi C.1 C.2.1 (by rw [C.2.2.1, hL.1]) C.2.2.2.2.2.1 (C_word C (xla_ok _ hl) rfl) (C.2.2.2.2.2.2.1 _ (xg_of xla_na rfl)) (C.2.2.2.2.2.2.1 _ (xg_of xla_st rfl)) (C.2.2.2.2.2.2.1 _ (xg_of xla_in rfl)) C.2.2.2.2.2.2.2.1 hP (xD C.2.2.2.2.2.2.2.2.2 m) hS a b 0 0 (by rw [wl_at G m (sh_lt (by omega)), xcell_arr ha]) (by rw [wl_at G m (sh_lt (by omega)), xcell_arr hb]) rfl rfl rfl h1 h2 h3 h5 h6 (fun _ _ => rfl) (by show 1 ≤ ht y + 1; omega) (by have := lt4_sum (G := G) h4; rw [nfw]; show _ ≤ 64 * (ht y + 1); omega) hd (fun H1 locs1 hP1 _ hS1 => by
    rw [wl_up (sh_lt (by omega)) (by rw [xcell_arr hb, xa_at])] at hP1
    exact h p e s mid args below meth c H1 locs1 sl C hP1 hS1 hL)
theorem xpre_blind {as : List Value} : FrameBlind (va_Pc (as.map (cv G)) (xPre G m)) := fun a U g mk h => ⟨h.1, h.2.1, va_K.moved (u := U) (U := U.calling g mk a) (Vm.Alike.refl U.vm) h.2.2.1, (xEx.vm (U := U.calling g mk a) h.2.2.2 rfl)⟩
theorem good_app {ws : List Cond} (h : ∀ w ∈ ws, w ∈ xg_tbl) : GoodIn xg_tbl ws := fun w hw => ⟨h w hw, good_of_word (xg_good w (h w hw))⟩
theorem run_go {p : Program} {e : Env} {s : State} {mid : MethodId} {args : Array Value} {below : List Frame} {meth : Method} {c : Code} {H : Heap} {locs : List Loc} {sl : Array Slot} {st0 : List Value} {Q1 : xQt} {aa : Array Value} (C : Cx G y p s mid args meth c) (hS : va_S (xA G) s.heap H locs) (hL : lrp G ls sl (xe y).2.2.1) (hr : va_Run p G.1 e (rmd (ht y)) s mid args below meth c H locs 0 0 0 0 (F0 mid pc sl st0) (st.map (cv G)) (xPost G Q1 aa) (xA G)) (h : ∀ r m', Q1 r m' → VK G y Q (pc + 3) ls (r.toList ++ st) m') : W p G.1 e (rmd (ht y)) s mid args below meth c H locs 0 0 (MQ below (xPost G Q) args s 0 0 (xA G)) (F0 mid pc sl st0) := by
  intro T hT X
  obtain ⟨v, st₀, t, T', L, h0, X', hL2, e1, e2, ⟨⟨r, m', hv, hq, hp⟩, hz, hk⟩, stp⟩ := hr T hT X
  cases hv
  rw [h0] at hz hk
  have hS' : va_S (xA G) s.heap T'.heap (locs ++ L) := ⟨Nat.le_trans hS.1 (by rw [e1]; exact hz), fun q h1 h2 => by rw [e1, hk q (Nat.lt_of_lt_of_le h1 hS.1) h2]; exact hS.2.1 q h1 h2, fun q hq => by
      rcases List.mem_append.mp hq with h | h
      · exact hS.2.2 q h
      · exact hL2 q h⟩
  obtain ⟨t2, a1, b1⟩ := h r m' hq p e s mid args below meth c T'.heap (locs ++ L) sl C (by rw [e1]; exact hp) hS' hL T' rfl X'
  refine ⟨t2, stp t2 ?_, b1⟩
  have e9 : (r.map (cv G)).toList ++ st.map (cv G) = (r.toList ++ st).map (cv G) := by cases r <;> simp
  show Steps p.tables e below (T'.setTop (F0 mid (pc + 3) sl ((r.map (cv G)).toList ++ st.map (cv G)))) t2
  rw [e9]
  exact a1
theorem xe_kind {k : Nat} (hk : ¬ (xe k).2.2.2.2.2.2.2 = 2) : Cond.code (xe k).1 (xe k).2.1 (xe k).2.2.1 (xe k).2.2.2.1 ∈ lw_tbl ∧ (Cond.initialized (xe k).1.cls ∈ lw_tbl ∧ plainName (xe k).1.cls = true ∧ cn (xe k).2.2.2.2.1 = (xe k).1.cls ∧ (xe k).2.2.1 ≤ 40) ∧ ((xe k).1.cls ≠ "java/lang/invoke/MethodHandle" ∧ (xe k).1.cls ≠ "java/lang/invoke/VarHandle" ∧ (parseMethodDescriptor (xe k).1.desc).map (fun d => d.parameters.length) = some (xe k).2.2.2.2.2.2.1) ∧ (((xe k).2.2.2.2.2.2.2 = 0 ∧ Cond.static (xe k).1 ∈ lw_tbl) ∨ ((xe k).2.2.2.2.2.2.2 = 1 ∧ Cond.instanceMethod (xe k).1 ∈ lw_tbl ∧ Cond.selects (xe k).1.cls (xe k).1 (xe k).1 ∈ lw_tbl)) := by
  rcases xe_ok k with h | h
  · exact absurd h hk
  · exact h
theorem k_calls {i q4 k : Nat} {as : List Value} {Q1 : xQt} (hl : lw_tbl[q4]? = some (Cond.methodLink (cn (xe y).2.2.2.2.1) i (xe k).1)) (hk0 : (xe k).2.2.2.2.2.2.2 = 0) (hn : as.length = (xe k).2.2.2.2.2.2.1) (hht : ht k < ht y) (h4 : lt4 st) (hd : decode (xe y).2.1 pc = .ok (.invokestatic i, 3)) (hT : Tri G k as m Q1) (h : ∀ r m', Q1 r m' → VK G y Q (pc + 3) ls (r.toList ++ st) m') : VK G y Q pc ls (as.reverse ++ st) m := by
  intro p e s mid args below meth c H locs sl C hP hS hL
  obtain ⟨w1, ⟨w2, w3, w4, w5⟩, w6, w7⟩ := xe_kind (k := k) (by omega)
  have hst : Cond.static (xe k).1 ∈ lw_tbl := by
    rcases w7 with h | h
    · exact h.2
    · omega
  have hG : GoodIn xg_tbl (va_wsS (cn (xe y).2.2.2.2.1) i (xe k).1 (yw k)) := by
    refine good_app fun w hw => ?_
    rcases List.mem_append.mp hw with h | h
    · simp only [List.mem_cons, List.not_mem_nil, or_false] at h
      rcases h with rfl | rfl | rfl
      · exact xg_of (List.mem_of_getElem? hl) rfl
      · exact xg_of hst rfl
      · exact xg_of w2 rfl
    · rcases List.mem_cons.mp h with rfl | h
      · exact xg_of w1 rfl
      · exact h
  refine run_go (Q1 := Q1) (aa := (as.map (cv G)).toArray) C hS hL ?_ h
  exact va_runS (As := as.map (cv G)) ⟨C.1, C.2.1, C.2.2.1, C.2.2.2.2.2.1, C.2.2.2.2.2.2.1⟩ (hT C.2.2.2.2.2.2.2.2.2) (va_cwS (xe k).2.2.2.2.2.2.1 C.2.2.2.2.2.2.1 hG rfl rfl rfl w6 ⟨by show ht k + 1 + 1 ≤ ht y + 1; omega, by show 8 + ((xe k).2.2.1 + 11) + 64 * (ht k + 1) ≤ 64 * (ht y + 1); omega⟩) ⟨xpre_blind, fun U hU hW => ⟨rfl, by rw [hU]; exact hP, va_K.moved hW.alike C.2.2.2.2.2.2.2.1, xEx.go C.2.2.2.2.2.2.2.2.1 hW (by rw [hU]; exact hS.2.1)⟩⟩ rfl (by rw [List.length_map]; exact hn) hL.1 (by show (as.reverse ++ st).map (cv G) = _; rw [List.map_append, List.map_reverse]) (lv_room (lt4_sum h4)) hd ⟨Nat.le_refl 0, Nat.le_refl 0⟩
theorem k_callv {i q4 k o : Nat} {as : List Value} {Q1 : xQt} (hl : lw_tbl[q4]? = some (Cond.methodLink (cn (xe y).2.2.2.2.1) i (xe k).1)) (hk0 : (xe k).2.2.2.2.2.2.2 = 1) (hcl : ((sh o).1 = 50 ∧ (xe k).1.cls = "java/lang/String") ∨ ∃ (t : Nat) (q : vw_C), (sh o).1 = t + 3 ∧ xcl[t]? = some q ∧ q.1 = (xe k).1.cls) (hn : as.length = (xe k).2.2.2.2.2.2.1) (hht : ht k < ht y) (h4 : lt4 st) (hd : decode (xe y).2.1 pc = .ok (.invokevirtual i, 3)) (hT : Tri G k (.ref o :: as) m Q1) (h : ∀ r m', Q1 r m' → VK G y Q (pc + 3) ls (r.toList ++ st) m') : VK G y Q pc ls (as.reverse ++ .ref o :: st) m := by
  intro p e s mid args below meth c H locs sl C hP hS hL
  obtain ⟨w1, ⟨w2, w3, w4, w5⟩, w6, w7⟩ := xe_kind (k := k) (by omega)
  obtain ⟨hin, hse⟩ : Cond.instanceMethod (xe k).1 ∈ lw_tbl ∧ Cond.selects (xe k).1.cls (xe k).1 (xe k).1 ∈ lw_tbl := by
    rcases w7 with h | h
    · omega
    · exact h.2
  have hG : GoodIn xg_tbl (wsV (cn (xe y).2.2.2.2.1) i (xe k).1.cls (xe k).1 (yw k)) := by
    refine good_app fun w hw => ?_
    rcases List.mem_append.mp hw with h | h
    · simp only [List.mem_cons, List.not_mem_nil, or_false] at h
      rcases h with rfl | rfl | rfl | rfl
      · exact xg_of (List.mem_of_getElem? hl) rfl
      · exact xg_of hin rfl
      · exact xg_of hse rfl
      · exact xg_of w2 rfl
    · rcases List.mem_cons.mp h with rfl | h
      · exact xg_of w1 rfl
      · exact h
  have hrecv : ∃ cellB : Cell, H[G.2.2.1 o]? = some cellB ∧ cellB.vm.isStatics = false ∧ s.vm.findClass (xe k).1.cls = some cellB.cls := by
    rcases hcl with ⟨h1, h2⟩ | ⟨t, q, h1, h2, h3⟩
    · obtain ⟨j, hj, rfl⟩ := sh50 h1
      obtain ⟨cell, g1, g2, g3, -⟩ := ((C.2.2.2.2.2.2.2.2.1.2.2.2.2 j hj).1).kept hS.2.1
      exact ⟨cell, g1, g2, by rw [h2]; exact g3⟩
    · have ht9 : t < 9 := by
        have := (List.getElem?_eq_some_iff.mp h2).1
        simpa [xcl] using this
      have hr := va_recv C.2.2.2.2.2.2.2.1 hP h2 (q0 := o) (a := G.2.2.1 o) (by rw [wl_at G m (sh_lt (by omega)), xcell_obj h1])
      rw [h3] at hr
      exact hr
  refine run_go (Q1 := Q1) (aa := (Value.ref (G.2.2.1 o) :: as.map (cv G)).toArray) C hS hL ?_ h
  exact va_runV (C := (xe k).1.cls) (b := G.2.2.1 o) (As := as.map (cv G)) ⟨C.1, C.2.1, C.2.2.1, C.2.2.2.2.2.1, C.2.2.2.2.2.2.1⟩ (hT C.2.2.2.2.2.2.2.2.2) (cwV (xe k).2.2.2.2.2.2.1 C.2.2.2.2.2.2.1 hG rfl rfl rfl ⟨rfl, w6⟩ ⟨by show ht k + 1 + 1 ≤ ht y + 1; omega, by show 8 + ((xe k).2.2.1 + 11) + 64 * (ht k + 1) ≤ 64 * (ht y + 1); omega⟩) ⟨xpre_blind (as := .ref o :: as), hrecv, fun U hU hW => ⟨rfl, by rw [hU]; exact hP, va_K.moved hW.alike C.2.2.2.2.2.2.2.1, xEx.go C.2.2.2.2.2.2.2.2.1 hW (by rw [hU]; exact hS.2.1)⟩⟩ rfl (by rw [List.length_map]; exact hn) hL.1 (by show (as.reverse ++ .ref o :: st).map (cv G) = _; rw [List.map_append, List.map_reverse]; rfl) (lv_room (lt4_sum h4)) hd ⟨Nat.le_refl 0, Nat.le_refl 0⟩
theorem k_iret {v : Int32} (hr : nrw (xe y).2.2.2.1 v) (hd : decode (xe y).2.1 pc = .ok (.ireturn, 1)) (h : Q (some (.int v)) m) : VK G y Q pc ls [.int v] m := by
  intro p e s mid args below meth c H locs sl C hP hS hL
  have hlk := C.2.2.2.2.1
  have key : ∃ ty, (xe y).2.2.2.1 = some ty ∧ narrow ty (.int v) = .int v := by
    unfold nrw at hr
    split at hr
    · exact ⟨_, by assumption, rfl⟩
    · refine ⟨_, by assumption, ?_⟩
      show Value.int (v &&& 1) = _
      rw [hr]
    · refine ⟨_, by assumption, ?_⟩
      show Value.int v.toInt8.toInt32 = _
      rw [hr]
    · refine ⟨_, by assumption, ?_⟩
      show Value.int (v.toUInt32.toUInt16.toUInt32.toInt32) = _
      rw [← lg_i2c_nf, hr]
    · exact hr.elim
  obtain ⟨ty, e1, e2⟩ := key
  exact W.zret (v := v) C.1 C.2.1 (C.2.2.2.1.trans e1) e2 (fun t ht hW => ⟨⟨some (.int v), m, rfl, h, by rw [ht]; exact hP⟩, hS.F ht⟩) hS.2.2 hd hlk
theorem k_lret {v : Int64} (hr : (xe y).2.2.2.1 = some .long) (hd : decode (xe y).2.1 pc = .ok (.lreturn, 1)) (h : Q (some (.long v)) m) : VK G y Q pc ls [.long v] m := by
  intro p e s mid args below meth c H locs sl C hP hS hL
  have hlk := C.2.2.2.2.1
  exact W.lret (v := v) C.1 C.2.1 (C.2.2.2.1.trans hr) (fun t ht hW => ⟨⟨some (.long v), m, rfl, h, by rw [ht]; exact hP⟩, hS.F ht⟩) hS.2.2 hd hlk
theorem k_vret (hr : (xe y).2.2.2.1 = none) (hd : decode (xe y).2.1 pc = .ok (.return_, 1)) (h : Q none m) : VK G y Q pc ls [] m := by
  intro p e s mid args below meth c H locs sl C hP hS hL
  have hlk := C.2.2.2.2.1
  exact W.vret C.1 C.2.1 (C.2.2.2.1.trans hr) (fun t ht hW => ⟨⟨none, m, rfl, h, by rw [ht]; exact hP⟩, hS.F ht⟩) hS.2.2 hd hlk
theorem k_aret {v : Nat} {cl : String} (hr : (xe y).2.2.2.1 = some (.object cl)) (hd : decode (xe y).2.1 pc = .ok (.areturn, 1)) (h : Q (some (.ref v)) m) : VK G y Q pc ls [.ref v] m := by
  intro p e s mid args below meth c H locs sl C hP hS hL
  have hlk := C.2.2.2.2.1
  exact W.aret (v := .ref (G.2.2.1 v)) C.1 C.2.1 (C.2.2.2.1.trans hr) (Or.inl ⟨_, rfl⟩) (Or.inr ⟨_, rfl⟩) (fun t ht hW => ⟨⟨some (.ref v), m, rfl, h, by rw [ht]; exact hP⟩, hS.F ht⟩) hS.2.2 hd hlk
end SC
end
section
theorem fb_rng (x : Int32) : -2147483648 ≤ x.toInt ∧ x.toInt < 2147483648 := by
  have h1 := Int32.le_toInt x
  have h2 := Int32.toInt_lt x
  omega
theorem fb_bmod {z : Int} (h1 : -2147483648 ≤ z) (h2 : z < 2147483648) : z.bmod (2 ^ 32) = z := by
  rw [Int.bmod_eq_of_le (by omega) (by omega)]
theorem fb_addI {x y : Int32} (h1 : -2147483648 ≤ x.toInt + y.toInt) (h2 : x.toInt + y.toInt < 2147483648) : (x + y).toInt = x.toInt + y.toInt := by
  rw [Int32.toInt_add, fb_bmod h1 h2]
theorem fb_subI {x y : Int32} (h1 : -2147483648 ≤ x.toInt - y.toInt) (h2 : x.toInt - y.toInt < 2147483648) : (x - y).toInt = x.toInt - y.toInt := by
  rw [Int32.toInt_sub, fb_bmod h1 h2]
theorem fb_mulI {x y : Int32} (h1 : -2147483648 ≤ x.toInt * y.toInt) (h2 : x.toInt * y.toInt < 2147483648) : (x * y).toInt = x.toInt * y.toInt := by
  rw [Int32.toInt_mul, fb_bmod h1 h2]
theorem fb_negI {x : Int32} (h : x.toInt ≠ -2147483648) : (-x).toInt = -x.toInt := by
  have := fb_rng x
  rw [Int32.toInt_neg, fb_bmod (by omega) (by omega)]
theorem fb_ofI {z : Int} (h1 : -2147483648 ≤ z) (h2 : z < 2147483648) : (Int32.ofInt z).toInt = z := by
  rw [Int32.toInt_ofInt, fb_bmod h1 h2]
theorem fb_asI (x : Int32) : Int32.ofInt x.toInt = x := Int32.ofInt_toInt x
theorem fb_rngL (x : Int64) : -9223372036854775808 ≤ x.toInt ∧ x.toInt < 9223372036854775808 := by
  have h1 := Int64.le_toInt x
  have h2 := Int64.toInt_lt x
  omega
theorem fb_bmodL {z : Int} (h1 : -9223372036854775808 ≤ z) (h2 : z < 9223372036854775808) : z.bmod (2 ^ 64) = z := by
  rw [Int.bmod_eq_of_le (by omega) (by omega)]
theorem fb_addL {x y : Int64} (h1 : -9223372036854775808 ≤ x.toInt + y.toInt) (h2 : x.toInt + y.toInt < 9223372036854775808) : (x + y).toInt = x.toInt + y.toInt := by
  rw [Int64.toInt_add, fb_bmodL h1 h2]
theorem fb_subL {x y : Int64} (h1 : -9223372036854775808 ≤ x.toInt - y.toInt) (h2 : x.toInt - y.toInt < 9223372036854775808) : (x - y).toInt = x.toInt - y.toInt := by
  rw [Int64.toInt_sub, fb_bmodL h1 h2]
theorem fb_mulL {x y : Int64} (h1 : -9223372036854775808 ≤ x.toInt * y.toInt) (h2 : x.toInt * y.toInt < 9223372036854775808) : (x * y).toInt = x.toInt * y.toInt := by
  rw [Int64.toInt_mul, fb_bmodL h1 h2]
/-! ===== cuts of what is narrow already ===== -/
theorem fb_byte {x : Int32} (h1 : -128 ≤ x.toInt) (h2 : x.toInt < 128) : x.toInt8.toInt32 = x := by
  apply Int32.toInt_inj.1
  rw [Int8.toInt_toInt32, Int32.toInt_toInt8, Int.bmod_eq_of_le (by omega) (by omega)]
theorem fb_short {x : Int32} (h1 : -32768 ≤ x.toInt) (h2 : x.toInt < 32768) : x.toInt16.toInt32 = x := by
  apply Int32.toInt_inj.1
  rw [Int16.toInt_toInt32, Int32.toInt_toInt16, Int.bmod_eq_of_le (by omega) (by omega)]
theorem fb_byte_rng (x : Int32) : -128 ≤ x.toInt8.toInt32.toInt ∧ x.toInt8.toInt32.toInt < 128 := by
  rw [Int8.toInt_toInt32]
  have h1 := Int8.le_toInt x.toInt8
  have h2 := Int8.toInt_lt x.toInt8
  omega
theorem fb_short_rng (x : Int32) : -32768 ≤ x.toInt16.toInt32.toInt ∧ x.toInt16.toInt32.toInt < 32768 := by
  rw [Int16.toInt_toInt32]
  have h1 := Int16.le_toInt x.toInt16
  have h2 := Int16.toInt_lt x.toInt16
  omega
theorem fb_byte_twice (x : Int32) : x.toInt8.toInt32.toInt8.toInt32 = x.toInt8.toInt32 := fb_byte (fb_byte_rng x).1 (fb_byte_rng x).2
theorem fb_short_twice (x : Int32) : x.toInt16.toInt32.toInt16.toInt32 = x.toInt16.toInt32 := fb_short (fb_short_rng x).1 (fb_short_rng x).2
theorem fb_char {n : Nat} (h : n < 65536) : (nI n).toUInt32.toUInt16.toUInt32.toInt32 = nI n := by
  apply Int32.toBitVec_inj.1
  apply BitVec.eq_of_toNat_eq
  have e1 : (nI n).toBitVec.toNat = n := by
    show (BitVec.ofNat 32 n).toNat = n
    rw [BitVec.toNat_ofNat, Nat.mod_eq_of_lt (by omega)]
  have e2 : ((nI n).toUInt32.toUInt16.toUInt32).toNat = n := by
    rw [UInt16.toNat_toUInt32, UInt32.toNat_toUInt16]
    show (nI n).toBitVec.toNat % 2 ^ 16 = n
    rw [e1, Nat.mod_eq_of_lt (by omega)]
  rw [e1]
  exact e2
theorem swt_of {x : Int32} {P : Int → Prop} {d : Int} : ∀ {l : List Int} {lo : Int}, swt x P d lo l → (∀ (j : Nat) (t : Int), l[j]? = some t → x = Int32.ofInt (lo + j) → (∀ i : Nat, i < j → ¬ x = Int32.ofInt (lo + i)) → P t) ∧ ((∀ j : Nat, j < l.length → ¬ x = Int32.ofInt (lo + j)) → P d)
  | [], lo, h => ⟨fun j t hj => by simp at hj, fun _ => h⟩
  | t :: l, lo, h => by
    obtain ⟨h1, h2⟩ := h
    refine ⟨fun j t' hj hx hn => ?_, fun hn => ?_⟩
    · cases j with
      | zero =>
        simp at hj
        subst hj
        exact h1 (by simpa using hx)
      | succ j =>
        have h0 : ¬ x = Int32.ofInt lo := by
          have := hn 0 (by omega)
          simpa using this
        refine (swt_of (h2 h0)).1 j t' (by simpa using hj) (by rw [hx]; congr 1; push_cast; omega) (fun i hi => ?_)
        have := hn (i + 1) (by omega)
        intro z
        apply this
        rw [z]
        congr 1
        push_cast
        omega
    · have h0 : ¬ x = Int32.ofInt lo := by
        have := hn 0 (by simp)
        simpa using this
      refine (swt_of (h2 h0)).2 (fun j hj z => ?_)
      apply hn (j + 1) (by simp; omega)
      rw [z]
      congr 1
      push_cast
      omega
theorem k_switch {G : xG} {y : Nat} {Q : xQt} {pc : Nat} {ls st : List Value} {m : xM} {d lo hi : Int} {ts : Array Int} {len : Nat} {x : Int32} (hd : decode (xe y).2.1 pc = .ok (.tableswitch d lo hi ts, len)) (h0 : 0 ≤ (pc : Int) + d) (h1 : ∀ t ∈ ts.toList, 0 ≤ (pc : Int) + t) (h2 : hi = lo + ts.size - 1) (h3 : -1000 ≤ lo) (h4 : ts.size ≤ 1000) (h5 : lo ≤ 1000) (h : swt x (fun t => VK G y Q t.toNat ls st m) ((pc : Int) + d) lo (ts.map (fun t => (pc : Int) + t)).toList) : VK G y Q pc ls (.int x :: st) m := by
  intro p e s mid args below meth c H locs sl C hP hS hL
  obtain ⟨g1, g2⟩ := swt_of h
  by_cases hr : x.toInt < lo ∨ hi < x.toInt
  · refine lv_tableOut C.1 C.2.1 hd hr (Int.toNat_of_nonneg h0).symm (g2 (fun j hj z => ?_) p e s mid args below meth c H locs sl C hP hS hL)
    simp at hj
    have := congrArg Int32.toInt z
    rw [fb_ofI (by omega) (by omega)] at this
    omega
  · have hr1 : ¬ x.toInt < lo := fun q => hr (Or.inl q)
    have hr2 : ¬ hi < x.toInt := fun q => hr (Or.inr q)
    have hj : (x.toInt - lo).toNat < ts.size := by omega
    have ho : ts[(x.toInt - lo).toNat]? = some ts[(x.toInt - lo).toNat] := Array.getElem?_eq_getElem hj
    have hm : ts[(x.toInt - lo).toNat] ∈ ts.toList := by simp
    refine lv_tableIn C.1 C.2.1 hd hr1 hr2 ho (Int.toNat_of_nonneg (h1 _ hm)).symm (g1 (x.toInt - lo).toNat _ ?_ ?_ ?_ p e s mid args below meth c H locs sl C hP hS hL)
    · simp [hj]
    · rw [show lo + ((x.toInt - lo).toNat : Int) = x.toInt by omega, fb_asI]
    · intro i hi z
      have := congrArg Int32.toInt z
      rw [fb_ofI (by omega) (by omega)] at this
      omega
def ckc (y : Nat) (res : Instr) : Bool := match res with
  | .lreturn => decide ((xe y).2.2.2.1 = some .long)
  | .return_ => decide ((xe y).2.2.2.1 = none)
  | .areturn => decide ((xe y).2.2.2.1 = some (.object "OverInDinghy$Club"))
  | .invokestatic q => decide (ht (q / 640) < ht y)
  | .invokevirtual q => decide (ht (q / 640) < ht y)
  | .tableswitch _ lo _ _ => decide (lo ≤ 1000)
  | _ => true
theorem xlm_of {o i q q4 : Nat} (h : (o, i, q, q4) ∈ xlm) : lw_tbl[q4]? = some (Cond.methodLink (cn o) i (xe (q / 640)).1) := xlm_ok _ h
theorem take_rev (st : List Value) (n : Nat) : st = (st.take n).reverse.reverse ++ st.drop n := by simp

theorem xkn0 {G : xG} {m : xM} {k f : Nat} (h : xkn f = 0 ∨ xkn f = 1) : xfv G m k (f / 32) (f % 32) = cv G (.int (m.1 k (f % 32))) := by
  unfold xkn at h
  unfold xfv
  split at h
  · rename_i e; rw [e]; rfl
  · rename_i e; rw [e]; rfl
  · omega
  · omega
theorem xkn2 {G : xG} {m : xM} {k f : Nat} (h : xkn f = 2) : xfv G m k (f / 32) (f % 32) = cv G (.long (m.2 k (f % 32))) := by
  unfold xkn at h
  unfold xfv
  split at h
  · omega
  · omega
  · rename_i e; rw [e]; rfl
  · omega
theorem xkn3 {G : xG} {m : xM} {k f : Nat} (h0 : xkn f = 0 → False) (h1 : xkn f = 1 → False) (h2 : xkn f = 2 → False) : xfv G m k (f / 32) (f % 32) = cv G (.ref (rt k (f % 32))) := by
  unfold xkn at h0 h1 h2
  unfold xfv
  split
  · rename_i e; rw [e] at h0; exact absurd rfl h0
  · rename_i e; rw [e] at h1; exact absurd rfl h1
  · rename_i e; rw [e] at h2; exact absurd rfl h2
  · rfl
theorem xknI {f : Nat} (h : xkn f = 0) : xty (f / 32) (f % 32) = .int := by
  unfold xkn at h
  split at h
  · assumption
  · omega
  · omega
  · omega
theorem xknZ {f : Nat} (h : xkn f = 1) : xty (f / 32) (f % 32) = .boolean := by
  unfold xkn at h
  split at h
  · omega
  · assumption
  · omega
  · omega
theorem xknL {f : Nat} (h : xkn f = 2) : xty (f / 32) (f % 32) = .long := by
  unfold xkn at h
  split at h
  · omega
  · omega
  · assumption
  · omega
theorem swt_mono {x : Int32} {P P' : Int → Prop} (hP : ∀ t, P t → P' t) : ∀ {l : List Int} {d lo : Int}, swt x P d lo l → swt x P' d lo l
  | [], _, _, h => hP _ h
  | _ :: _, _, _, h => ⟨fun q => hP _ (h.1 q), fun q => swt_mono hP (h.2 q)⟩
theorem step {G : xG} {y : Nat} {Q : xQt} {pc : Nat} {ls st : List Value} {m : xM} {raw res : Instr} {len : Nat} (hn : ls.length ≤ (xe y).2.2.1) (hd : decode (xe y).2.1 pc = .ok (raw, len)) (hr : res ∈ rsv (xe y).2.2.2.2.1 pc len raw) (hc : ckc y res = true) (h : ex (fun ls st m => ls.length ≤ (xe y).2.2.1 → VK G y Q (pc + len) ls st m) (fun t ls st m => ls.length ≤ (xe y).2.2.1 → VK G y Q t.toNat ls st m) Q (xe y).2.2.2.1 (Tri G) res ls st m) : VK G y Q pc ls st m := by
  match raw, hd, hr with
  | .iadd, hd, hr =>
    obtain ⟨e1, rfl⟩ := gd_of hr
    have e1 := eq_of_beq e1
    subst e1
    obtain ⟨b, st, rfl, h⟩ := p_i_of h
    obtain ⟨a, st, rfl, h⟩ := p_i_of h
    exact k_iadd hd (h hn)
  | .isub, hd, hr =>
    obtain ⟨e1, rfl⟩ := gd_of hr
    have e1 := eq_of_beq e1
    subst e1
    obtain ⟨b, st, rfl, h⟩ := p_i_of h
    obtain ⟨a, st, rfl, h⟩ := p_i_of h
    exact k_isub hd (h hn)
  | .imul, hd, hr =>
    obtain ⟨e1, rfl⟩ := gd_of hr
    have e1 := eq_of_beq e1
    subst e1
    obtain ⟨b, st, rfl, h⟩ := p_i_of h
    obtain ⟨a, st, rfl, h⟩ := p_i_of h
    exact k_imul hd (h hn)
  | .iand, hd, hr =>
    obtain ⟨e1, rfl⟩ := gd_of hr
    have e1 := eq_of_beq e1
    subst e1
    obtain ⟨b, st, rfl, h⟩ := p_i_of h
    obtain ⟨a, st, rfl, h⟩ := p_i_of h
    exact k_iand hd (h hn)
  | .ior, hd, hr =>
    obtain ⟨e1, rfl⟩ := gd_of hr
    have e1 := eq_of_beq e1
    subst e1
    obtain ⟨b, st, rfl, h⟩ := p_i_of h
    obtain ⟨a, st, rfl, h⟩ := p_i_of h
    exact k_ior hd (h hn)
  | .ixor, hd, hr =>
    obtain ⟨e1, rfl⟩ := gd_of hr
    have e1 := eq_of_beq e1
    subst e1
    obtain ⟨b, st, rfl, h⟩ := p_i_of h
    obtain ⟨a, st, rfl, h⟩ := p_i_of h
    exact k_ixor hd (h hn)
  | .ishl, hd, hr =>
    obtain ⟨e1, rfl⟩ := gd_of hr
    have e1 := eq_of_beq e1
    subst e1
    obtain ⟨b, st, rfl, h⟩ := p_i_of h
    obtain ⟨a, st, rfl, h⟩ := p_i_of h
    exact k_ishl hd (h hn)
  | .ishr, hd, hr =>
    obtain ⟨e1, rfl⟩ := gd_of hr
    have e1 := eq_of_beq e1
    subst e1
    obtain ⟨b, st, rfl, h⟩ := p_i_of h
    obtain ⟨a, st, rfl, h⟩ := p_i_of h
    exact k_ishr hd (h hn)
  | .idiv, hd, hr =>
    obtain ⟨e1, rfl⟩ := gd_of hr
    have e1 := eq_of_beq e1
    subst e1
    obtain ⟨b, st, rfl, h⟩ := p_i_of h
    obtain ⟨a, st, rfl, h⟩ := p_i_of h
    exact k_idiv hd h.1 (h.2 hn)
  | .irem, hd, hr =>
    obtain ⟨e1, rfl⟩ := gd_of hr
    have e1 := eq_of_beq e1
    subst e1
    obtain ⟨b, st, rfl, h⟩ := p_i_of h
    obtain ⟨a, st, rfl, h⟩ := p_i_of h
    exact k_irem hd h.1 (h.2 hn)
  | .ineg, hd, hr =>
    obtain ⟨e1, rfl⟩ := gd_of hr
    have e1 := eq_of_beq e1
    subst e1
    obtain ⟨a, st, rfl, h⟩ := p_i_of h
    exact k_ineg hd (h hn)
  | .ladd, hd, hr =>
    obtain ⟨e1, rfl⟩ := gd_of hr
    have e1 := eq_of_beq e1
    subst e1
    obtain ⟨b, st, rfl, h⟩ := p_l_of h
    obtain ⟨a, st, rfl, h⟩ := p_l_of h
    exact k_ladd hd (h hn)
  | .lsub, hd, hr =>
    obtain ⟨e1, rfl⟩ := gd_of hr
    have e1 := eq_of_beq e1
    subst e1
    obtain ⟨b, st, rfl, h⟩ := p_l_of h
    obtain ⟨a, st, rfl, h⟩ := p_l_of h
    exact k_lsub hd (h hn)
  | .lmul, hd, hr =>
    obtain ⟨e1, rfl⟩ := gd_of hr
    have e1 := eq_of_beq e1
    subst e1
    obtain ⟨b, st, rfl, h⟩ := p_l_of h
    obtain ⟨a, st, rfl, h⟩ := p_l_of h
    exact k_lmul hd (h hn)
  | .land, hd, hr =>
    obtain ⟨e1, rfl⟩ := gd_of hr
    have e1 := eq_of_beq e1
    subst e1
    obtain ⟨b, st, rfl, h⟩ := p_l_of h
    obtain ⟨a, st, rfl, h⟩ := p_l_of h
    exact k_land hd (h hn)
  | .lor, hd, hr =>
    obtain ⟨e1, rfl⟩ := gd_of hr
    have e1 := eq_of_beq e1
    subst e1
    obtain ⟨b, st, rfl, h⟩ := p_l_of h
    obtain ⟨a, st, rfl, h⟩ := p_l_of h
    exact k_lor hd (h hn)
  | .lcmp, hd, hr =>
    obtain ⟨e1, rfl⟩ := gd_of hr
    have e1 := eq_of_beq e1
    subst e1
    obtain ⟨b, st, rfl, h⟩ := p_l_of h
    obtain ⟨a, st, rfl, h⟩ := p_l_of h
    exact k_lcmp hd (h hn)
  | .ldiv, hd, hr =>
    obtain ⟨e1, rfl⟩ := gd_of hr
    have e1 := eq_of_beq e1
    subst e1
    obtain ⟨b, st, rfl, h⟩ := p_l_of h
    obtain ⟨a, st, rfl, h⟩ := p_l_of h
    exact k_ldiv hd h.1 (h.2 hn)
  | .lrem, hd, hr =>
    obtain ⟨e1, rfl⟩ := gd_of hr
    have e1 := eq_of_beq e1
    subst e1
    obtain ⟨b, st, rfl, h⟩ := p_l_of h
    obtain ⟨a, st, rfl, h⟩ := p_l_of h
    exact k_lrem hd h.1 (h.2 hn)
  | .lneg, hd, hr =>
    obtain ⟨e1, rfl⟩ := gd_of hr
    have e1 := eq_of_beq e1
    subst e1
    obtain ⟨a, st, rfl, h⟩ := p_l_of h
    exact k_lneg hd (h hn)
  | .lshl, hd, hr =>
    obtain ⟨e1, rfl⟩ := gd_of hr
    have e1 := eq_of_beq e1
    subst e1
    obtain ⟨b, st, rfl, h⟩ := p_i_of h
    obtain ⟨a, st, rfl, h⟩ := p_l_of h
    exact k_lshl hd (h hn)
  | .lshr, hd, hr =>
    obtain ⟨e1, rfl⟩ := gd_of hr
    have e1 := eq_of_beq e1
    subst e1
    obtain ⟨b, st, rfl, h⟩ := p_i_of h
    obtain ⟨a, st, rfl, h⟩ := p_l_of h
    exact k_lshr hd (h hn)
  | .i2l, hd, hr =>
    obtain ⟨e1, rfl⟩ := gd_of hr
    have e1 := eq_of_beq e1
    subst e1
    obtain ⟨a, st, rfl, h⟩ := p_i_of h
    exact k_i2l hd (h hn)
  | .i2b, hd, hr =>
    obtain ⟨e1, rfl⟩ := gd_of hr
    have e1 := eq_of_beq e1
    subst e1
    obtain ⟨a, st, rfl, h⟩ := p_i_of h
    exact k_i2b hd (h hn)
  | .i2s, hd, hr =>
    obtain ⟨e1, rfl⟩ := gd_of hr
    have e1 := eq_of_beq e1
    subst e1
    obtain ⟨a, st, rfl, h⟩ := p_i_of h
    exact k_i2s hd (h hn)
  | .i2c, hd, hr =>
    obtain ⟨e1, rfl⟩ := gd_of hr
    have e1 := eq_of_beq e1
    subst e1
    obtain ⟨a, st, rfl, h⟩ := p_i_of h
    exact k_i2c hd (h hn)
  | .pop, hd, hr =>
    obtain ⟨e1, rfl⟩ := gd_of hr
    have e1 := eq_of_beq e1
    subst e1
    obtain ⟨a, st, rfl, h⟩ := p_i_of h
    exact k_pop hd (h hn)
  | .l2i, hd, hr =>
    obtain ⟨e1, rfl⟩ := gd_of hr
    have e1 := eq_of_beq e1
    subst e1
    obtain ⟨a, st, rfl, h⟩ := p_l_of h
    exact k_l2i hd (h hn)
  | .dup, hd, hr =>
    obtain ⟨e1, rfl⟩ := gd_of hr
    have e1 := eq_of_beq e1
    subst e1
    match st, h with
    | .int x :: st, h => exact k_dupi hd (h hn)
    | .ref x :: st, h => exact k_dupr hd (h hn)
  | .dup2, hd, hr =>
    obtain ⟨e1, rfl⟩ := gd_of hr
    have e1 := eq_of_beq e1
    subst e1
    obtain ⟨b, st, rfl, h⟩ := p_i_of h
    obtain ⟨a, st, rfl, h⟩ := p_r_of h
    exact k_dup2 hd (h hn)
  | .iastore, hd, hr =>
    obtain ⟨e1, rfl⟩ := gd_of hr
    have e1 := eq_of_beq e1
    subst e1
    obtain ⟨v, st, rfl, h⟩ := p_i_of h
    obtain ⟨i, st, rfl, h⟩ := p_i_of h
    obtain ⟨k, st, rfl, h⟩ := p_r_of h
    exact k_iast h.1 h.2.1 hd (h.2.2 hn)
  | .ireturn, hd, hr =>
    obtain ⟨e1, rfl⟩ := gd_of hr
    have e1 := eq_of_beq e1
    subst e1
    match st, h with
    | [.int v], h => exact k_iret h.1 hd h.2
  | .lreturn, hd, hr =>
    obtain ⟨e1, rfl⟩ := gd_of hr
    have e1 := eq_of_beq e1
    subst e1
    match st, h with
    | [.long v], h => exact k_lret (by simpa [ckc] using hc) hd h
  | .areturn, hd, hr =>
    obtain ⟨e1, rfl⟩ := gd_of hr
    have e1 := eq_of_beq e1
    subst e1
    match st, h with
    | [.ref v], h => exact k_aret (by simpa [ckc] using hc) hd h
  | .return_, hd, hr =>
    obtain ⟨e1, rfl⟩ := gd_of hr
    have e1 := eq_of_beq e1
    subst e1
    match st, h with
    | [], h => exact k_vret (by simpa [ckc] using hc) hd h
  | .iconst n, hd, hr =>
    obtain ⟨e1, rfl⟩ := gd_of hr
    have e1 := eq_of_beq e1
    subst e1
    exact k_iconst hd (h hn)
  | .bipush n, hd, hr =>
    obtain ⟨e1, rfl⟩ := gd_of hr
    rw [Bool.and_eq_true] at e1
    obtain ⟨e1, e2⟩ := e1
    have e1 := eq_of_beq e1
    have e2 := of_decide_eq_true e2
    subst e1
    exact k_bipush hd e2 (h hn)
  | .sipush n, hd, hr =>
    obtain ⟨e1, rfl⟩ := gd_of hr
    rw [Bool.and_eq_true] at e1
    obtain ⟨e1, e2⟩ := e1
    have e1 := eq_of_beq e1
    have e2 := of_decide_eq_true e2
    subst e1
    exact k_sipush hd e2 (h hn)
  | .lconst n, hd, hr =>
    obtain ⟨e1, rfl⟩ := gd_of hr
    rw [Bool.and_eq_true] at e1
    obtain ⟨e1, e2⟩ := e1
    have e1 := eq_of_beq e1
    have e2 := of_decide_eq_true e2
    subst e1
    exact k_lconst hd e2 (h hn)
  | .iload_n k, hd, hr =>
    obtain ⟨e1, rfl⟩ := gd_of hr
    have e1 := eq_of_beq e1
    subst e1
    obtain ⟨x, h1, h⟩ := ldI_of h
    exact k_iload_n hd h1 (h hn)
  | .iload k, hd, hr =>
    obtain ⟨e1, rfl⟩ := gd_of hr
    have e1 := eq_of_beq e1
    subst e1
    obtain ⟨x, h1, h⟩ := ldI_of h
    exact k_iload hd h1 (h hn)
  | .lload_n k, hd, hr =>
    obtain ⟨e1, rfl⟩ := gd_of hr
    have e1 := eq_of_beq e1
    subst e1
    obtain ⟨x, h1, h⟩ := ldL_of h
    exact k_lload_n hd h1 (h hn)
  | .lload k, hd, hr =>
    obtain ⟨e1, rfl⟩ := gd_of hr
    have e1 := eq_of_beq e1
    subst e1
    obtain ⟨x, h1, h⟩ := ldL_of h
    exact k_lload hd h1 (h hn)
  | .aload_n k, hd, hr =>
    obtain ⟨e1, rfl⟩ := gd_of hr
    have e1 := eq_of_beq e1
    subst e1
    obtain ⟨x, h1, h⟩ := ldR_of h
    exact k_aload_n hd h1 (h hn)
  | .aload k, hd, hr =>
    obtain ⟨e1, rfl⟩ := gd_of hr
    have e1 := eq_of_beq e1
    subst e1
    obtain ⟨x, h1, h⟩ := ldR_of h
    exact k_aload hd h1 (h hn)
  | .istore_n k, hd, hr =>
    obtain ⟨e1, rfl⟩ := gd_of hr
    have e1 := eq_of_beq e1
    subst e1
    obtain ⟨x, st, rfl, h⟩ := p_i_of h
    exact k_istore_n hn hd h.1 (h.2 (by simpa using hn))
  | .istore k, hd, hr =>
    obtain ⟨e1, rfl⟩ := gd_of hr
    have e1 := eq_of_beq e1
    subst e1
    obtain ⟨x, st, rfl, h⟩ := p_i_of h
    exact k_istore hn hd h.1 (h.2 (by simpa using hn))
  | .astore_n k, hd, hr =>
    obtain ⟨e1, rfl⟩ := gd_of hr
    have e1 := eq_of_beq e1
    subst e1
    obtain ⟨x, st, rfl, h⟩ := p_r_of h
    exact k_astore_n hn hd h.1 (h.2 (by simpa using hn))
  | .astore k, hd, hr =>
    obtain ⟨e1, rfl⟩ := gd_of hr
    have e1 := eq_of_beq e1
    subst e1
    obtain ⟨x, st, rfl, h⟩ := p_r_of h
    exact k_astore hn hd h.1 (h.2 (by simpa using hn))
  | .lstore_n k, hd, hr =>
    obtain ⟨e1, rfl⟩ := gd_of hr
    have e1 := eq_of_beq e1
    subst e1
    obtain ⟨x, st, rfl, h⟩ := p_l_of h
    exact k_lstore_n hn hd h.1 h.2.1 (h.2.2 (by simpa using hn))
  | .lstore k, hd, hr =>
    obtain ⟨e1, rfl⟩ := gd_of hr
    have e1 := eq_of_beq e1
    subst e1
    obtain ⟨x, st, rfl, h⟩ := p_l_of h
    exact k_lstore hn hd h.1 h.2.1 (h.2.2 (by simpa using hn))
  | .iinc k n, hd, hr =>
    obtain ⟨e1, rfl⟩ := gd_of hr
    have e1 := eq_of_beq e1
    subst e1
    obtain ⟨x, h1, h⟩ := ldI_of h
    exact k_iinc hn hd h1 h.1 (h.2 (by simpa using hn))
  | .ldc i, hd, hr =>
    rcases List.mem_append.mp hr with hr | hr
    · obtain ⟨e1, hr1⟩ := gdl_of hr
      have e1 := eq_of_beq e1
      subst e1
      obtain ⟨⟨o1, i1, n1, q1⟩, hm, hr2⟩ := List.mem_filterMap.mp hr1
      clear hr1 hr
      split at hr2
      · rename_i hq
        obtain ⟨rfl, rfl⟩ := hq
        cases hr2
        exact k_ldc hd (xlc_ok _ hm) (h hn)
      · cases hr2
    · obtain ⟨e1, hr1⟩ := gdl_of hr
      rw [Bool.and_eq_true] at e1
      obtain ⟨e1, e2⟩ := e1
      have e1 := eq_of_beq e1
      have e2 := eq_of_beq e2
      subst e1
      obtain ⟨j, hj, hr2⟩ := List.mem_filterMap.mp hr1
      split at hr2
      · rename_i hq
        subst hq
        cases hr2
        exact k_ldcs (List.mem_range.mp hj) e2 hd (h hn)
      · cases hr2
  | .ldc_w i, hd, hr =>
    obtain ⟨e1, hr1⟩ := gdl_of hr
    have e1 := eq_of_beq e1
    subst e1
    obtain ⟨⟨o1, i1, n1, q1⟩, hm, hr2⟩ := List.mem_filterMap.mp hr1
    clear hr1 hr
    split at hr2
    · rename_i hq
      obtain ⟨rfl, rfl⟩ := hq
      cases hr2
      exact k_ldc_w hd (xlc_ok _ hm) (h hn)
    · cases hr2
  | .ldc2_w i, hd, hr =>
    obtain ⟨e1, hr1⟩ := gdl_of hr
    have e1 := eq_of_beq e1
    subst e1
    obtain ⟨⟨o1, i1, n1, q1⟩, hm, hr2⟩ := List.mem_filterMap.mp hr1
    clear hr1 hr
    split at hr2
    · rename_i hq
      obtain ⟨rfl, rfl⟩ := hq
      cases hr2
      exact k_ldc2 hd (xll_ok _ hm) (h hn)
    · cases hr2
  | .getfield i, hd, hr =>
    rcases List.mem_append.mp hr with hr | hr
    · rcases List.mem_append.mp hr with hr | hr
      · obtain ⟨e1, hr1⟩ := gdl_of hr
        have e1 := eq_of_beq e1
        subst e1
        obtain ⟨⟨o1, i1, n1, q1⟩, hm, hr2⟩ := List.mem_filterMap.mp hr1
        clear hr1 hr
        split at hr2
        · rename_i hq
          obtain ⟨rfl, rfl⟩ := hq
          have hkd : ∃ kk, xkn n1 = kk := ⟨_, rfl⟩
          simp only at hr2
          split at hr2
          · rename_i hk0
            cases hr2
            obtain ⟨k, st, rfl, h⟩ := p_r_of h
            exact k_get (v := .int (m.1 k (n1 % 32))) hm h.1 (xkn0 (Or.inl hk0)) hd (h.2 hn)
          · rename_i hk0
            cases hr2
            obtain ⟨k, st, rfl, h⟩ := p_r_of h
            exact k_get (v := .int (m.1 k (n1 % 32))) hm h.1 (xkn0 (Or.inr hk0)) hd (h.2 hn)
          · rename_i hk0
            cases hr2
            obtain ⟨k, st, rfl, h⟩ := p_r_of h
            exact k_get (v := .long (m.2 k (n1 % 32))) hm h.1 (xkn2 hk0) hd (h.2 hn)
          · rename_i hk0 hk1 hk2
            cases hr2
            obtain ⟨k, st, rfl, h⟩ := p_r_of h
            exact k_get (v := .ref (rt k (n1 % 32))) hm h.1 (xkn3 hk0 hk1 hk2) hd (h.2 hn)
        · cases hr2
      · obtain ⟨e1, rfl⟩ := gd_of hr
        simp only [Bool.and_eq_true, beq_iff_eq] at e1
        obtain ⟨⟨rfl, e2⟩, rfl⟩ := e1
        obtain ⟨k, st, rfl, h⟩ := p_r_of h
        exact k_strv h.1 e2 hd (h.2 hn)
    · obtain ⟨e1, rfl⟩ := gd_of hr
      simp only [Bool.and_eq_true, beq_iff_eq] at e1
      obtain ⟨⟨rfl, e2⟩, rfl⟩ := e1
      obtain ⟨k, st, rfl, h⟩ := p_r_of h
      exact k_strc h.1 e2 hd (h.2 hn)
  | .putfield i, hd, hr =>
    obtain ⟨e1, hr1⟩ := gdl_of hr
    have e1 := eq_of_beq e1
    subst e1
    obtain ⟨⟨o1, i1, n1, q1⟩, hm, hr2⟩ := List.mem_filterMap.mp hr1
    clear hr1 hr
    split at hr2
    · rename_i hq
      obtain ⟨rfl, rfl, hf⟩ := hq
      simp only at hr2
      split at hr2
      · rename_i hk0
        cases hr2
        obtain ⟨v, st, rfl, h⟩ := p_i_of h
        obtain ⟨k, st, rfl, h⟩ := p_r_of h
        exact k_puti hm hf h.1 (xknI hk0) hd (h.2 hn)
      · rename_i hk0
        cases hr2
        obtain ⟨v, st, rfl, h⟩ := p_i_of h
        obtain ⟨k, st, rfl, h⟩ := p_r_of h
        exact k_putz h.2.1 hm hf h.1 (xknZ hk0) hd (h.2.2 hn)
      · rename_i hk0
        cases hr2
        obtain ⟨v, st, rfl, h⟩ := p_l_of h
        obtain ⟨k, st, rfl, h⟩ := p_r_of h
        exact k_putl hm hf h.1 (xknL hk0) hd (h.2 hn)
      · cases hr2
    · cases hr2
  | .getstatic i, hd, hr =>
    rcases List.mem_append.mp hr with hr | hr
    · rcases List.mem_append.mp hr with hr | hr
      · rcases List.mem_append.mp hr with hr | hr
        · rcases List.mem_append.mp hr with hr | hr
          · obtain ⟨e1, rfl⟩ := gd_of hr
            simp only [Bool.and_eq_true, beq_iff_eq] at e1
            obtain ⟨⟨rfl, e2⟩, rfl⟩ := e1
            exact k_gets (j := 0) (by omega) e2 xs0 hd (h hn)
          · obtain ⟨e1, rfl⟩ := gd_of hr
            simp only [Bool.and_eq_true, beq_iff_eq] at e1
            obtain ⟨⟨rfl, e2⟩, rfl⟩ := e1
            exact k_gets (j := 1) (by omega) e2 xs1 hd (h hn)
        · obtain ⟨e1, rfl⟩ := gd_of hr
          simp only [Bool.and_eq_true, beq_iff_eq] at e1
          obtain ⟨⟨rfl, e2⟩, rfl⟩ := e1
          exact k_gets (j := 2) (by omega) e2 xs2 hd (h hn)
      · obtain ⟨e1, rfl⟩ := gd_of hr
        simp only [Bool.and_eq_true, beq_iff_eq] at e1
        obtain ⟨⟨rfl, e2⟩, rfl⟩ := e1
        exact k_getc e2 hd (h hn)
    · obtain ⟨e1, rfl⟩ := gd_of hr
      simp only [Bool.and_eq_true, beq_iff_eq] at e1
      obtain ⟨⟨rfl, e2⟩, rfl⟩ := e1
      exact k_getf0 e2 hd (h hn)
  | .invokestatic i, hd, hr =>
    rcases List.mem_append.mp hr with hr | hr
    · rcases List.mem_append.mp hr with hr | hr
      · rcases List.mem_append.mp hr with hr | hr
        · obtain ⟨e1, hr1⟩ := gdl_of hr
          have e1 := eq_of_beq e1
          subst e1
          obtain ⟨⟨o1, i1, n1, q1⟩, hm, hr2⟩ := List.mem_filterMap.mp hr1
          clear hr1 hr
          split at hr2
          · rename_i hq
            obtain ⟨rfl, rfl, hf⟩ := hq
            cases hr2
            obtain ⟨h1, h2, h3⟩ := h
            obtain ⟨g1, g2, g3⟩ := xlm_n _ hm
            simp only at g1 g2 g3 hf h1
            rw [take_rev st (n1 / 64 % 10)]
            exact k_calls (xlm_of hm) hf (by rw [List.length_reverse, List.length_take]; omega) (by simpa [ckc] using hc) h2 hd h3 (fun r m' q => q hn)
          · cases hr2
        · obtain ⟨e1, hr1⟩ := gdl_of hr
          have e1 := eq_of_beq e1
          subst e1
          obtain ⟨⟨o1, i1, q1⟩, hm, hr2⟩ := List.mem_filterMap.mp hr1
          clear hr1 hr
          split at hr2
          · rename_i hq
            obtain ⟨rfl, rfl⟩ := hq
            cases hr2
            obtain ⟨n, st, rfl, h⟩ := p_i_of h
            obtain ⟨dp, st, rfl, h⟩ := p_i_of h
            obtain ⟨b, st, rfl, h⟩ := p_r_of h
            obtain ⟨sp, st, rfl, h⟩ := p_i_of h
            obtain ⟨a, st, rfl, h⟩ := p_r_of h
            obtain ⟨h4, ha, hb, h1, h2, h3, h5, h6, h⟩ := h
            exact k_copy hm h4 ha hb h1 h2 h3 h5 h6 hd (h hn)
          · cases hr2
      · obtain ⟨e1, hr1⟩ := gdl_of hr
        have e1 := eq_of_beq e1
        subst e1
        obtain ⟨⟨o1, i1, q1⟩, hm, hr2⟩ := List.mem_filterMap.mp hr1
        clear hr1 hr
        split at hr2
        · rename_i hq
          obtain ⟨rfl, rfl⟩ := hq
          cases hr2
          obtain ⟨b, st, rfl, h⟩ := p_i_of h
          obtain ⟨a, st, rfl, h⟩ := p_i_of h
          exact k_max hm h.1 hd (h.2 hn)
        · cases hr2
    · obtain ⟨e1, hr1⟩ := gdl_of hr
      have e1 := eq_of_beq e1
      subst e1
      obtain ⟨⟨o1, i1, q1⟩, hm, hr2⟩ := List.mem_filterMap.mp hr1
      clear hr1 hr
      split at hr2
      · rename_i hq
        obtain ⟨rfl, rfl⟩ := hq
        cases hr2
        obtain ⟨b, st, rfl, h⟩ := p_i_of h
        obtain ⟨a, st, rfl, h⟩ := p_i_of h
        exact k_min hm h.1 hd (h.2 hn)
      · cases hr2
  | .invokevirtual i, hd, hr =>
    obtain ⟨e1, hr1⟩ := gdl_of hr
    have e1 := eq_of_beq e1
    subst e1
    obtain ⟨⟨o1, i1, n1, q1⟩, hm, hr2⟩ := List.mem_filterMap.mp hr1
    clear hr1 hr
    split at hr2
    · rename_i hq
      obtain ⟨rfl, rfl, hf⟩ := hq
      cases hr2
      obtain ⟨h1, h2, h4, h3⟩ := h
      obtain ⟨g1, g2, g3⟩ := xlm_n _ hm
      simp only at g1 g2 g3 hf h1
      obtain ⟨o, as, hst, hsh⟩ := p_r_of h4
      have hst2 := take_rev st (n1 / 64 % 10)
      have hlen : (st.take (n1 / 64 % 10)).reverse.length = n1 / 64 % 10 := by rw [List.length_reverse, List.length_take]; omega
      rw [hst] at hst2 h3 hlen
      simp only [List.reverse_cons, List.append_assoc, List.singleton_append] at hst2
      simp only [List.length_cons] at hlen
      have hcl := g3 hf
      rw [hst2]
      refine k_callv (o := o) (xlm_of hm) hf ?_ (by omega) (by simpa [ckc] using hc) h2 hd h3 (fun r m' q => q hn)
      simp only at hsh hcl
      rcases hcl with ⟨c1, c2⟩ | ⟨c1, c2⟩
      · exact Or.inl ⟨hsh.trans c1, c2⟩
      · right
        cases hx : xcl[n1 % 64 - 3]? with
        | none => rw [hx] at c1; simp at c1
        | some q => rw [hx] at c1; exact ⟨n1 % 64 - 3, q, by rw [hsh]; omega, hx, by simpa using c1⟩
    · cases hr2
  | .iaload, hd, hr =>
    rcases List.mem_append.mp hr with hr | hr
    · obtain ⟨e1, rfl⟩ := gd_of hr
      have e1 := eq_of_beq e1
      subst e1
      obtain ⟨i, st, rfl, h⟩ := p_i_of h
      obtain ⟨k, st, rfl, h⟩ := p_r_of h
      exact k_iald h.1 h.2.1 hd (h.2.2 hn)
    · obtain ⟨e1, rfl⟩ := gd_of hr
      have e1 := eq_of_beq e1
      subst e1
      obtain ⟨i, st, rfl, h⟩ := p_i_of h
      obtain ⟨k, st, rfl, h⟩ := p_r_of h
      exact k_ialdX h.1 h.2.1 hd (h.2.2 hn)
  | .baload, hd, hr =>
    rcases List.mem_append.mp hr with hr | hr
    · rcases List.mem_append.mp hr with hr | hr
      · obtain ⟨e1, rfl⟩ := gd_of hr
        have e1 := eq_of_beq e1
        subst e1
        obtain ⟨i, st, rfl, h⟩ := p_i_of h
        obtain ⟨k, st, rfl, h⟩ := p_r_of h
        exact k_bald h.1 h.2.1 hd (h.2.2 hn)
      · obtain ⟨e1, rfl⟩ := gd_of hr
        have e1 := eq_of_beq e1
        subst e1
        obtain ⟨i, st, rfl, h⟩ := p_i_of h
        obtain ⟨k, st, rfl, h⟩ := p_r_of h
        exact k_baldX h.1 h.2.1 hd (h.2.2 hn)
    · obtain ⟨e1, rfl⟩ := gd_of hr
      have e1 := eq_of_beq e1
      subst e1
      obtain ⟨i, st, rfl, h⟩ := p_i_of h
      obtain ⟨k, st, rfl, h⟩ := p_r_of h
      exact k_zald h.1 h.2.1 hd (h.2.2 hn)
  | .bastore, hd, hr =>
    rcases List.mem_append.mp hr with hr | hr
    · obtain ⟨e1, rfl⟩ := gd_of hr
      have e1 := eq_of_beq e1
      subst e1
      obtain ⟨v, st, rfl, h⟩ := p_i_of h
      obtain ⟨i, st, rfl, h⟩ := p_i_of h
      obtain ⟨k, st, rfl, h⟩ := p_r_of h
      exact k_bast h.1 h.2.1 hd (h.2.2 hn)
    · obtain ⟨e1, rfl⟩ := gd_of hr
      have e1 := eq_of_beq e1
      subst e1
      obtain ⟨v, st, rfl, h⟩ := p_i_of h
      obtain ⟨i, st, rfl, h⟩ := p_i_of h
      obtain ⟨k, st, rfl, h⟩ := p_r_of h
      exact k_zast h.2.2.1 h.1 h.2.1 hd (h.2.2.2 hn)
  | .arraylength, hd, hr =>
    rcases List.mem_append.mp hr with hr | hr
    · obtain ⟨e1, rfl⟩ := gd_of hr
      have e1 := eq_of_beq e1
      subst e1
      obtain ⟨k, st, rfl, h⟩ := p_r_of h
      exact k_alen h.1 hd (h.2 hn)
    · obtain ⟨e1, rfl⟩ := gd_of hr
      have e1 := eq_of_beq e1
      subst e1
      obtain ⟨k, st, rfl, h⟩ := p_r_of h
      exact k_alenX h.1 hd (h.2 hn)
  | .goto t, hd, hr =>
    obtain ⟨e1, rfl⟩ := gd_of hr
    rw [Bool.and_eq_true] at e1
    obtain ⟨e1, e2⟩ := e1
    have e1 := eq_of_beq e1
    have e2 := of_decide_eq_true e2
    subst e1
    exact k_goto hd e2 (h hn)
  | .ifCond .eq t, hd, hr =>
    obtain ⟨e1, rfl⟩ := gd_of hr
    rw [Bool.and_eq_true] at e1
    obtain ⟨e1, e2⟩ := e1
    have e1 := eq_of_beq e1
    have e2 := of_decide_eq_true e2
    subst e1
    obtain ⟨x, st, rfl, h⟩ := p_i_of h
    exact k_if_eq hd e2 (fun q => h.1 q hn) (fun q => h.2 q hn)
  | .if_icmp .eq t, hd, hr =>
    obtain ⟨e1, rfl⟩ := gd_of hr
    rw [Bool.and_eq_true] at e1
    obtain ⟨e1, e2⟩ := e1
    have e1 := eq_of_beq e1
    have e2 := of_decide_eq_true e2
    subst e1
    obtain ⟨y9, st, rfl, h⟩ := p_i_of h
    obtain ⟨x, st, rfl, h⟩ := p_i_of h
    exact k_icmp_eq hd e2 (fun q => h.1 q hn) (fun q => h.2 q hn)
  | .ifCond .ne t, hd, hr =>
    obtain ⟨e1, rfl⟩ := gd_of hr
    rw [Bool.and_eq_true] at e1
    obtain ⟨e1, e2⟩ := e1
    have e1 := eq_of_beq e1
    have e2 := of_decide_eq_true e2
    subst e1
    obtain ⟨x, st, rfl, h⟩ := p_i_of h
    exact k_if_ne hd e2 (fun q => h.2 q hn) (fun q => h.1 q hn)
  | .if_icmp .ne t, hd, hr =>
    obtain ⟨e1, rfl⟩ := gd_of hr
    rw [Bool.and_eq_true] at e1
    obtain ⟨e1, e2⟩ := e1
    have e1 := eq_of_beq e1
    have e2 := of_decide_eq_true e2
    subst e1
    obtain ⟨y9, st, rfl, h⟩ := p_i_of h
    obtain ⟨x, st, rfl, h⟩ := p_i_of h
    exact k_icmp_ne hd e2 (fun q => h.2 q hn) (fun q => h.1 q hn)
  | .ifCond .lt t, hd, hr =>
    obtain ⟨e1, rfl⟩ := gd_of hr
    rw [Bool.and_eq_true] at e1
    obtain ⟨e1, e2⟩ := e1
    have e1 := eq_of_beq e1
    have e2 := of_decide_eq_true e2
    subst e1
    obtain ⟨x, st, rfl, h⟩ := p_i_of h
    exact k_if_lt hd e2 (fun q => h.1 q hn) (fun q => h.2 q hn)
  | .if_icmp .lt t, hd, hr =>
    obtain ⟨e1, rfl⟩ := gd_of hr
    rw [Bool.and_eq_true] at e1
    obtain ⟨e1, e2⟩ := e1
    have e1 := eq_of_beq e1
    have e2 := of_decide_eq_true e2
    subst e1
    obtain ⟨y9, st, rfl, h⟩ := p_i_of h
    obtain ⟨x, st, rfl, h⟩ := p_i_of h
    exact k_icmp_lt hd e2 (fun q => h.1 q hn) (fun q => h.2 q hn)
  | .ifCond .ge t, hd, hr =>
    obtain ⟨e1, rfl⟩ := gd_of hr
    rw [Bool.and_eq_true] at e1
    obtain ⟨e1, e2⟩ := e1
    have e1 := eq_of_beq e1
    have e2 := of_decide_eq_true e2
    subst e1
    obtain ⟨x, st, rfl, h⟩ := p_i_of h
    exact k_if_ge hd e2 (fun q => h.1 q hn) (fun q => h.2 q hn)
  | .if_icmp .ge t, hd, hr =>
    obtain ⟨e1, rfl⟩ := gd_of hr
    rw [Bool.and_eq_true] at e1
    obtain ⟨e1, e2⟩ := e1
    have e1 := eq_of_beq e1
    have e2 := of_decide_eq_true e2
    subst e1
    obtain ⟨y9, st, rfl, h⟩ := p_i_of h
    obtain ⟨x, st, rfl, h⟩ := p_i_of h
    exact k_icmp_ge hd e2 (fun q => h.1 q hn) (fun q => h.2 q hn)
  | .ifCond .gt t, hd, hr =>
    obtain ⟨e1, rfl⟩ := gd_of hr
    rw [Bool.and_eq_true] at e1
    obtain ⟨e1, e2⟩ := e1
    have e1 := eq_of_beq e1
    have e2 := of_decide_eq_true e2
    subst e1
    obtain ⟨x, st, rfl, h⟩ := p_i_of h
    exact k_if_gt hd e2 (fun q => h.1 q hn) (fun q => h.2 q hn)
  | .if_icmp .gt t, hd, hr =>
    obtain ⟨e1, rfl⟩ := gd_of hr
    rw [Bool.and_eq_true] at e1
    obtain ⟨e1, e2⟩ := e1
    have e1 := eq_of_beq e1
    have e2 := of_decide_eq_true e2
    subst e1
    obtain ⟨y9, st, rfl, h⟩ := p_i_of h
    obtain ⟨x, st, rfl, h⟩ := p_i_of h
    exact k_icmp_gt hd e2 (fun q => h.1 q hn) (fun q => h.2 q hn)
  | .ifCond .le t, hd, hr =>
    obtain ⟨e1, rfl⟩ := gd_of hr
    rw [Bool.and_eq_true] at e1
    obtain ⟨e1, e2⟩ := e1
    have e1 := eq_of_beq e1
    have e2 := of_decide_eq_true e2
    subst e1
    obtain ⟨x, st, rfl, h⟩ := p_i_of h
    exact k_if_le hd e2 (fun q => h.1 q hn) (fun q => h.2 q hn)
  | .if_icmp .le t, hd, hr =>
    obtain ⟨e1, rfl⟩ := gd_of hr
    rw [Bool.and_eq_true] at e1
    obtain ⟨e1, e2⟩ := e1
    have e1 := eq_of_beq e1
    have e2 := of_decide_eq_true e2
    subst e1
    obtain ⟨y9, st, rfl, h⟩ := p_i_of h
    obtain ⟨x, st, rfl, h⟩ := p_i_of h
    exact k_icmp_le hd e2 (fun q => h.1 q hn) (fun q => h.2 q hn)
  | .tableswitch d lo hi ts, hd, hr =>
    obtain ⟨e1, rfl⟩ := gd_of hr
    simp only [Bool.and_eq_true, decide_eq_true_eq, List.all_eq_true] at e1
    obtain ⟨⟨⟨⟨e1, e2⟩, e3⟩, e4⟩, e5⟩ := e1
    obtain ⟨x, st, rfl, h⟩ := p_i_of h
    exact k_switch hd e1 e2 e3 e4 e5 (by simpa [ckc] using hc) (swt_mono (fun t q => q hn) h)
/-- a row of resolved instructions that is the method's code -/
def ckl (y : Nat) : List xI → Bool
  | [] => true
  | i :: is => (match decode (xe y).2.1 i.1 with
    | .ok (raw, len) => ((rsv (xe y).2.2.2.2.1 i.1 len raw).any (fun x => decide (x = i.2)) || decide (i.2 = .athrow)) && ckc y i.2 && (match is with | [] => true | j :: _ => j.1 == i.1 + len)
    | .error _ => false) && ckl y is
theorem ckl_of {y : Nat} {i : xI} {is : List xI} (h : ckl y (i :: is) = true) : ∃ raw len, decode (xe y).2.1 i.1 = .ok (raw, len) ∧ (i.2 ∈ rsv (xe y).2.2.2.2.1 i.1 len raw ∨ i.2 = .athrow) ∧ ckc y i.2 = true ∧ (∀ j l, is = j :: l → j.1 = i.1 + len) ∧ ckl y is = true := by
  unfold ckl at h
  rw [Bool.and_eq_true] at h
  obtain ⟨h1, h2⟩ := h
  split at h1
  · rename_i raw len hd
    simp only [Bool.and_eq_true, Bool.or_eq_true, List.any_eq_true, decide_eq_true_eq, exists_eq_right] at h1
    refine ⟨raw, len, hd, h1.1.1, h1.1.2, fun j l e => ?_, h2⟩
    subst e
    simpa using h1.2
  · cases h1
theorem ckl_drop {y : Nat} : ∀ {is : List xI} (n : Nat), ckl y is = true → ckl y (is.drop n) = true
  | [], n, h => by simp [ckl]
  | i :: is, 0, h => h
  | i :: is, n + 1, h => by
    obtain ⟨_, _, _, _, _, _, h⟩ := ckl_of h
    exact ckl_drop n h
theorem ex_mono {nx nx' : List Value → List Value → xM → Prop} {jp jp' : Int → List Value → List Value → xM → Prop} {Q : xQt} {rt0 : Option FieldType} {T T' : Nat → List Value → xM → xQt → Prop} (h1 : ∀ ls st m, nx ls st m → nx' ls st m) (h2 : ∀ t ls st m, jp t ls st m → jp' t ls st m) (h3 : ∀ k as m (Q1 Q2 : xQt), (∀ r m', Q1 r m' → Q2 r m') → T k as m Q1 → T' k as m Q2) (i : Instr) (ls st : List Value) (m : xM) (h : ex nx jp Q rt0 T i ls st m) : ex nx' jp' Q rt0 T' i ls st m := by
  have mi : ∀ {st : List Value} {k k' : Int32 → List Value → Prop}, (∀ x s, k x s → k' x s) → p_i st k → p_i st k' := fun q h => by
    obtain ⟨x, s, rfl, h⟩ := p_i_of h
    exact q x s h
  have ml : ∀ {st : List Value} {k k' : Int64 → List Value → Prop}, (∀ x s, k x s → k' x s) → p_l st k → p_l st k' := fun q h => by
    obtain ⟨x, s, rfl, h⟩ := p_l_of h
    exact q x s h
  have mr : ∀ {st : List Value} {k k' : Nat → List Value → Prop}, (∀ x s, k x s → k' x s) → p_r st k → p_r st k' := fun q h => by
    obtain ⟨x, s, rfl, h⟩ := p_r_of h
    exact q x s h
  have oi : ∀ {ls : List Value} {j : Nat} {k k' : Int32 → Prop}, (∀ x, k x → k' x) → ldI ls j k → ldI ls j k' := fun q h => by
    obtain ⟨x, e, h⟩ := ldI_of h
    unfold ldI; rw [e]
    exact q x h
  have ol : ∀ {ls : List Value} {j : Nat} {k k' : Int64 → Prop}, (∀ x, k x → k' x) → ldL ls j k → ldL ls j k' := fun q h => by
    obtain ⟨x, e, h⟩ := ldL_of h
    unfold ldL; rw [e]
    exact q x h
  have or : ∀ {ls : List Value} {j : Nat} {k k' : Nat → Prop}, (∀ x, k x → k' x) → ldR ls j k → ldR ls j k' := fun q h => by
    obtain ⟨x, e, h⟩ := ldR_of h
    unfold ldR; rw [e]
    exact q x h
  unfold ex at h ⊢
  split at h
  all_goals first
    | exact h1 _ _ _ h
    | exact h2 _ _ _ _ h
    | exact h
    | exact mi (fun _ _ q => h1 _ _ _ q) h
    | exact ml (fun _ _ q => h1 _ _ _ q) h
    | exact mr (fun _ _ q => h1 _ _ _ q) h
    | exact oi (fun _ q => h1 _ _ _ q) h
    | exact ol (fun _ q => h1 _ _ _ q) h
    | exact or (fun _ q => h1 _ _ _ q) h
    | exact oi (fun _ q => ⟨q.1, h1 _ _ _ q.2⟩) h
    | exact mi (fun _ _ q => ⟨q.1, h1 _ _ _ q.2⟩) h
    | exact mr (fun _ _ q => ⟨q.1, h1 _ _ _ q.2⟩) h
    | exact ml (fun _ _ q => ⟨q.1, q.2.1, h1 _ _ _ q.2.2⟩) h
    | exact mi (fun _ _ q => mi (fun _ _ q => h1 _ _ _ q) q) h
    | exact ml (fun _ _ q => ml (fun _ _ q => h1 _ _ _ q) q) h
    | exact mi (fun _ _ q => ml (fun _ _ q => h1 _ _ _ q) q) h
    | exact mi (fun _ _ q => mr (fun _ _ q => h1 _ _ _ q) q) h
    | exact mi (fun _ _ q => mi (fun _ _ q => ⟨q.1, h1 _ _ _ q.2⟩) q) h
    | exact ml (fun _ _ q => ml (fun _ _ q => ⟨q.1, h1 _ _ _ q.2⟩) q) h
    | exact mi (fun _ _ q => ⟨fun z => h2 _ _ _ _ (q.1 z), fun z => h1 _ _ _ (q.2 z)⟩) h
    | exact mi (fun _ _ q => ⟨fun z => h1 _ _ _ (q.1 z), fun z => h2 _ _ _ _ (q.2 z)⟩) h
    | exact mi (fun _ _ q => mi (fun _ _ q => ⟨fun z => h2 _ _ _ _ (q.1 z), fun z => h1 _ _ _ (q.2 z)⟩) q) h
    | exact mi (fun _ _ q => mi (fun _ _ q => ⟨fun z => h1 _ _ _ (q.1 z), fun z => h2 _ _ _ _ (q.2 z)⟩) q) h
    | exact mi (fun _ _ q => swt_mono (fun _ z => h2 _ _ _ _ z) q) h
    | exact mi (fun _ _ q => mr (fun _ _ q => ⟨q.1, h1 _ _ _ q.2⟩) q) h
    | exact ml (fun _ _ q => mr (fun _ _ q => ⟨q.1, h1 _ _ _ q.2⟩) q) h
    | exact mi (fun _ _ q => mr (fun _ _ q => ⟨q.1, q.2.1, h1 _ _ _ q.2.2⟩) q) h
    | exact mi (fun _ _ q => mi (fun _ _ q => mr (fun _ _ q => ⟨q.1, q.2.1, h1 _ _ _ q.2.2⟩) q) q) h
    | exact mi (fun _ _ q => mi (fun _ _ q => mr (fun _ _ q => ⟨q.1, q.2.1, q.2.2.1, h1 _ _ _ q.2.2.2⟩) q) q) h
    | exact mi (fun _ _ q => mi (fun _ _ q => mr (fun _ _ q => mi (fun _ _ q => mr (fun _ _ q => ⟨q.1, q.2.1, q.2.2.1, q.2.2.2.1, q.2.2.2.2.1, q.2.2.2.2.2.1, q.2.2.2.2.2.2.1, q.2.2.2.2.2.2.2.1, h1 _ _ _ q.2.2.2.2.2.2.2.2⟩) q) q) q) q) h
    | exact ⟨h.1, h.2.1, h3 _ _ _ _ _ (fun _ _ q => h1 _ _ _ q) h.2.2⟩
    | exact ⟨h.1, h.2.1, h.2.2.1, h3 _ _ _ _ _ (fun _ _ q => h1 _ _ _ q) h.2.2.2⟩
    | (split at h <;> first | exact h1 _ _ _ h | exact h)
theorem Met_mono {l : Launch} {y : MethodName} {ws : List Cond} {rm : Room} {Pc : Array Value → State → Prop} {Q1 Q2 : Array Value → State → Outcome → State → Prop} {mc ms : Nat} {free : Addr → Prop} (h : ∀ a st o t, Q1 a st o t → Q2 a st o t) (hM : Met l y ws rm Pc Q1 mc ms free) : Met l y ws rm Pc Q2 mc ms free := by
  intro p e ha hc hk s m args below hf hap hP hK
  obtain ⟨t, o, h1, h2, h3, h4, h5⟩ := hM p e ha hc hk s m args below hf hap hP hK
  exact ⟨t, o, h1, h2, h3, h _ _ _ _ h4, h5⟩
theorem Tri.mono {G : xG} {k : Nat} {as : List Value} {m : xM} {Q1 Q2 : xQt} (h : ∀ r m', Q1 r m' → Q2 r m') (hT : Tri G k as m Q1) : Tri G k as m Q2 := fun hi => Met_mono (fun _ _ _ _ ⟨⟨r, m', a, b, c⟩, d⟩ => ⟨⟨r, m', a, h r m' b, c⟩, d⟩) (hT hi)
end
section
theorem c2 : ckl 2 i2 = true := by decide +kernel
theorem c9 : ckl 9 i9 = true := by decide +kernel
theorem c10 : ckl 10 i10 = true := by decide +kernel
theorem c11 : ckl 11 i11 = true := by decide +kernel
theorem c12 : ckl 12 i12 = true := by decide +kernel
theorem c13 : ckl 13 i13 = true := by decide +kernel
theorem c14 : ckl 14 i14 = true := by decide +kernel
theorem c15 : ckl 15 i15 = true := by decide +kernel
theorem c16 : ckl 16 i16 = true := by decide +kernel
theorem c17 : ckl 17 i17 = true := by decide +kernel
theorem c18 : ckl 18 i18 = true := by decide +kernel
theorem c19 : ckl 19 i19 = true := by decide +kernel
theorem c20 : ckl 20 i20 = true := by decide +kernel
theorem c21 : ckl 21 i21 = true := by decide +kernel
theorem c22 : ckl 22 i22 = true := by decide +kernel
theorem c23 : ckl 23 i23 = true := by decide +kernel
theorem c24 : ckl 24 i24 = true := by decide +kernel
theorem c25 : ckl 25 i25 = true := by decide +kernel
theorem c26 : ckl 26 i26 = true := by decide +kernel
theorem c27 : ckl 27 i27 = true := by decide +kernel
theorem c28 : ckl 28 i28 = true := by decide +kernel
theorem c29 : ckl 29 i29 = true := by decide +kernel
theorem c30 : ckl 30 i30 = true := by decide +kernel
theorem c31 : ckl 31 i31 = true := by decide +kernel
theorem c32 : ckl 32 i32 = true := by decide +kernel
theorem c33 : ckl 33 i33 = true := by decide +kernel
theorem c34 : ckl 34 i34 = true := by decide +kernel
theorem c35 : ckl 35 i35 = true := by decide +kernel
theorem c36 : ckl 36 i36 = true := by decide +kernel
theorem c37 : ckl 37 i37 = true := by decide +kernel
theorem c38 : ckl 38 i38 = true := by decide +kernel
theorem c39 : ckl 39 i39 = true := by decide +kernel
theorem c40 : ckl 40 i40 = true := by decide +kernel
theorem c41 : ckl 41 i41 = true := by decide +kernel
theorem c46 : ckl 46 i46 = true := by decide +kernel
theorem c47 : ckl 47 i47 = true := by decide +kernel
theorem c48 : ckl 48 i48 = true := by decide +kernel
theorem c49 : ckl 49 i49 = true := by decide +kernel
theorem c50 : ckl 50 i50 = true := by decide +kernel
theorem c51 : ckl 51 i51 = true := by decide +kernel
theorem c52 : ckl 52 i52 = true := by decide +kernel
theorem c53 : ckl 53 i53 = true := by decide +kernel
theorem c54 : ckl 54 i54 = true := by decide +kernel
theorem c55 : ckl 55 i55 = true := by decide +kernel
theorem c56 : ckl 56 i56 = true := by decide +kernel
theorem c57 : ckl 57 i57 = true := by decide +kernel
theorem c58 : ckl 58 i58 = true := by decide +kernel
theorem c59 : ckl 59 i59 = true := by decide +kernel
theorem c60 : ckl 60 i60 = true := by decide +kernel
theorem c61 : ckl 61 i61 = true := by decide +kernel
theorem c62 : ckl 62 i62 = true := by decide +kernel
theorem c63 : ckl 63 i63 = true := by decide +kernel
theorem c64 : ckl 64 i64 = true := by decide +kernel
theorem c65 : ckl 65 i65 = true := by decide +kernel
theorem c66 : ckl 66 i66 = true := by decide +kernel
theorem c67 : ckl 67 i67 = true := by decide +kernel
theorem c68 : ckl 68 i68 = true := by decide +kernel
theorem c69 : ckl 69 i69 = true := by decide +kernel
theorem c70 : ckl 70 i70 = true := by decide +kernel
theorem c71 : ckl 71 i71 = true := by decide +kernel
theorem c72 : ckl 72 i72 = true := by decide +kernel
theorem c73 : ckl 73 i73 = true := by decide +kernel
theorem c74 : ckl 74 i74 = true := by decide +kernel
theorem c75 : ckl 75 i75 = true := by decide +kernel
theorem c77 : ckl 77 i77 = true := by decide +kernel
theorem c78 : ckl 78 i78 = true := by decide +kernel
theorem c80 : ckl 80 i80 = true := by decide +kernel
theorem c81 : ckl 81 i81 = true := by decide +kernel
theorem c82 : ckl 82 i82 = true := by decide +kernel
theorem c83 : ckl 83 i83 = true := by decide +kernel
theorem c84 : ckl 84 i84 = true := by decide +kernel
theorem c85 : ckl 85 i85 = true := by decide +kernel
theorem c86 : ckl 86 i86 = true := by decide +kernel
theorem c87 : ckl 87 i87 = true := by decide +kernel
theorem c88 : ckl 88 i88 = true := by decide +kernel
theorem c89 : ckl 89 i89 = true := by decide +kernel
theorem c90 : ckl 90 i90 = true := by decide +kernel
theorem c91 : ckl 91 i91 = true := by decide +kernel
theorem c92 : ckl 92 i92 = true := by decide +kernel
theorem c93 : ckl 93 i93 = true := by decide +kernel
theorem c94 : ckl 94 i94 = true := by decide +kernel
theorem c95 : ckl 95 i95 = true := by decide +kernel
theorem c96 : ckl 96 i96 = true := by decide +kernel
theorem c97 : ckl 97 i97 = true := by decide +kernel
theorem c98 : ckl 98 i98 = true := by decide +kernel
theorem c99 : ckl 99 i99 = true := by decide +kernel
theorem c100 : ckl 100 i100 = true := by decide +kernel
theorem c101 : ckl 101 i101 = true := by decide +kernel
theorem c102 : ckl 102 i102 = true := by decide +kernel
theorem c103 : ckl 103 i103 = true := by decide +kernel
theorem c104 : ckl 104 i104 = true := by decide +kernel
theorem c105 : ckl 105 i105 = true := by decide +kernel
theorem c106 : ckl 106 i106 = true := by decide +kernel
theorem c107 : ckl 107 i107 = true := by decide +kernel
theorem c108 : ckl 108 i108 = true := by decide +kernel
theorem c109 : ckl 109 i109 = true := by decide +kernel
theorem c110 : ckl 110 i110 = true := by decide +kernel
theorem c111 : ckl 111 i111 = true := by decide +kernel
theorem c112 : ckl 112 i112 = true := by decide +kernel
theorem c113 : ckl 113 i113 = true := by decide +kernel
theorem c114 : ckl 114 i114 = true := by decide +kernel
theorem c115 : ckl 115 i115 = true := by decide +kernel
theorem c116 : ckl 116 i116 = true := by decide +kernel
theorem c117 : ckl 117 i117 = true := by decide +kernel
theorem c118 : ckl 118 i118 = true := by decide +kernel
theorem c119 : ckl 119 i119 = true := by decide +kernel
theorem c120 : ckl 120 i120 = true := by decide +kernel
theorem c121 : ckl 121 i121 = true := by decide +kernel
theorem c122 : ckl 122 i122 = true := by decide +kernel
theorem c123 : ckl 123 i123 = true := by decide +kernel
theorem c124 : ckl 124 i124 = true := by decide +kernel
theorem c125 : ckl 125 i125 = true := by decide +kernel
theorem c126 : ckl 126 i126 = true := by decide +kernel
theorem c127 : ckl 127 i127 = true := by decide +kernel
theorem c128 : ckl 128 i128 = true := by decide +kernel
theorem c129 : ckl 129 i129 = true := by decide +kernel
theorem c130 : ckl 130 i130 = true := by decide +kernel
theorem c131 : ckl 131 i131 = true := by decide +kernel
theorem c132 : ckl 132 i132 = true := by decide +kernel
theorem c133 : ckl 133 i133 = true := by decide +kernel
theorem c134 : ckl 134 i134 = true := by decide +kernel
theorem c135 : ckl 135 i135 = true := by decide +kernel
theorem c136 : ckl 136 i136 = true := by decide +kernel
theorem c138 : ckl 138 i138 = true := by decide +kernel
theorem c139 : ckl 139 i139 = true := by decide +kernel
theorem c140 : ckl 140 i140 = true := by decide +kernel
theorem c141 : ckl 141 i141 = true := by decide +kernel
theorem c142 : ckl 142 i142 = true := by decide +kernel
theorem c143 : ckl 143 i143 = true := by decide +kernel
theorem c144 : ckl 144 i144 = true := by decide +kernel
theorem c146 : ckl 146 i146 = true := by decide +kernel
theorem c147 : ckl 147 i147 = true := by decide +kernel
theorem c148 : ckl 148 i148 = true := by decide +kernel
theorem c149 : ckl 149 i149 = true := by decide +kernel
theorem c150 : ckl 150 i150 = true := by decide +kernel
theorem c151 : ckl 151 i151 = true := by decide +kernel
theorem c152 : ckl 152 i152 = true := by decide +kernel
theorem c153 : ckl 153 i153 = true := by decide +kernel
theorem c154 : ckl 154 i154 = true := by decide +kernel
theorem c155 : ckl 155 i155 = true := by decide +kernel
theorem c156 : ckl 156 i156 = true := by decide +kernel
theorem c157 : ckl 157 i157 = true := by decide +kernel
theorem c158 : ckl 158 i158 = true := by decide +kernel
theorem c159 : ckl 159 i159 = true := by decide +kernel
theorem c160 : ckl 160 i160 = true := by decide +kernel
theorem c161 : ckl 161 i161 = true := by decide +kernel
theorem c162 : ckl 162 i162 = true := by decide +kernel
theorem c163 : ckl 163 i163 = true := by decide +kernel
theorem c164 : ckl 164 i164 = true := by decide +kernel
theorem c165 : ckl 165 i165 = true := by decide +kernel
theorem c166 : ckl 166 i166 = true := by decide +kernel
theorem c167 : ckl 167 i167 = true := by decide +kernel
theorem c168 : ckl 168 i168 = true := by decide +kernel
theorem c169 : ckl 169 i169 = true := by decide +kernel
theorem c170 : ckl 170 i170 = true := by decide +kernel
theorem c171 : ckl 171 i171 = true := by decide +kernel
theorem c172 : ckl 172 i172 = true := by decide +kernel
theorem c173 : ckl 173 i173 = true := by decide +kernel
theorem c174 : ckl 174 i174 = true := by decide +kernel
theorem c175 : ckl 175 i175 = true := by decide +kernel
theorem c176 : ckl 176 i176 = true := by decide +kernel
theorem c177 : ckl 177 i177 = true := by decide +kernel
theorem c178 : ckl 178 i178 = true := by decide +kernel
theorem c179 : ckl 179 i179 = true := by decide +kernel
theorem c180 : ckl 180 i180 = true := by decide +kernel
theorem c181 : ckl 181 i181 = true := by decide +kernel
theorem c182 : ckl 182 i182 = true := by decide +kernel
theorem c183 : ckl 183 i183 = true := by decide +kernel
theorem c184 : ckl 184 i184 = true := by decide +kernel
theorem c185 : ckl 185 i185 = true := by decide +kernel
theorem c186 : ckl 186 i186 = true := by decide +kernel
theorem c187 : ckl 187 i187 = true := by decide +kernel
theorem c188 : ckl 188 i188 = true := by decide +kernel
theorem c189 : ckl 189 i189 = true := by decide +kernel
theorem c190 : ckl 190 i190 = true := by decide +kernel
theorem c191 : ckl 191 i191 = true := by decide +kernel
theorem c192 : ckl 192 i192 = true := by decide +kernel
theorem c193 : ckl 193 i193 = true := by decide +kernel
theorem c194 : ckl 194 i194 = true := by decide +kernel
theorem c195 : ckl 195 i195 = true := by decide +kernel
theorem c196 : ckl 196 i196 = true := by decide +kernel
theorem c197 : ckl 197 i197 = true := by decide +kernel
theorem c198 : ckl 198 i198 = true := by decide +kernel
theorem c199 : ckl 199 i199 = true := by decide +kernel
theorem c200 : ckl 200 i200 = true := by decide +kernel
theorem c201 : ckl 201 i201 = true := by decide +kernel
theorem c202 : ckl 202 i202 = true := by decide +kernel
theorem c203 : ckl 203 i203 = true := by decide +kernel
theorem c204 : ckl 204 i204 = true := by decide +kernel
theorem c205 : ckl 205 i205 = true := by decide +kernel
theorem c206 : ckl 206 i206 = true := by decide +kernel
theorem c207 : ckl 207 i207 = true := by decide +kernel
theorem c208 : ckl 208 i208 = true := by decide +kernel
theorem c209 : ckl 209 i209 = true := by decide +kernel
theorem c210 : ckl 210 i210 = true := by decide +kernel
theorem c211 : ckl 211 i211 = true := by decide +kernel
theorem c212 : ckl 212 i212 = true := by decide +kernel
theorem c213 : ckl 213 i213 = true := by decide +kernel
theorem c214 : ckl 214 i214 = true := by decide +kernel
theorem c215 : ckl 215 i215 = true := by decide +kernel
theorem c216 : ckl 216 i216 = true := by decide +kernel
theorem c217 : ckl 217 i217 = true := by decide +kernel
theorem c218 : ckl 218 i218 = true := by decide +kernel
theorem c219 : ckl 219 i219 = true := by decide +kernel
theorem c220 : ckl 220 i220 = true := by decide +kernel
theorem c221 : ckl 221 i221 = true := by decide +kernel
theorem c222 : ckl 222 i222 = true := by decide +kernel
theorem c223 : ckl 223 i223 = true := by decide +kernel
theorem c224 : ckl 224 i224 = true := by decide +kernel
theorem c225 : ckl 225 i225 = true := by decide +kernel
theorem c226 : ckl 226 i226 = true := by decide +kernel
theorem c227 : ckl 227 i227 = true := by decide +kernel
theorem c228 : ckl 228 i228 = true := by decide +kernel
theorem c229 : ckl 229 i229 = true := by decide +kernel
theorem c230 : ckl 230 i230 = true := by decide +kernel
theorem c231 : ckl 231 i231 = true := by decide +kernel
theorem c232 : ckl 232 i232 = true := by decide +kernel
theorem c233 : ckl 233 i233 = true := by decide +kernel
theorem c234 : ckl 234 i234 = true := by decide +kernel
theorem c235 : ckl 235 i235 = true := by decide +kernel
theorem c236 : ckl 236 i236 = true := by decide +kernel
theorem c237 : ckl 237 i237 = true := by decide +kernel
theorem c238 : ckl 238 i238 = true := by decide +kernel
theorem c239 : ckl 239 i239 = true := by decide +kernel
theorem c240 : ckl 240 i240 = true := by decide +kernel
theorem c241 : ckl 241 i241 = true := by decide +kernel
theorem c242 : ckl 242 i242 = true := by decide +kernel
theorem c243 : ckl 243 i243 = true := by decide +kernel
end
section
/-- the row of instructions, as the machine does it: till a cut, or the end -/
theorem wp_sound {G : xG} {y : Nat} {Q : xQt} {K : Nat → List Value → List Value → xM → Prop} {cut : Nat → Bool} {T : Nat → List Value → xM → xQt → Prop} (hT : ∀ k as m Q1, T k as m Q1 → Tri G k as m Q1) (hK : ∀ pc ls st m, ls.length ≤ (xe y).2.2.1 → K pc ls st m → VK G y Q pc ls st m) : ∀ (is : List xI), ckl y is = true → ∀ ls st m, ls.length ≤ (xe y).2.2.1 → (∀ i l, is = i :: l → wp K cut Q (xe y).2.2.2.1 T none is ls st m → VK G y Q i.1 ls st m) ∧ (∀ t, wp K cut Q (xe y).2.2.2.1 T (some t) is ls st m → VK G y Q t ls st m)
  | [], _, ls, st, m, _ => ⟨fun i l h => (by cases h), fun t h => h.elim⟩
  | i :: is, hck, ls, st, m, hn => by
    obtain ⟨raw, len, hd, hr, hc, hnext, hck2⟩ := ckl_of hck
    have ih := wp_sound (cut := cut) hT hK is hck2
    have one : wp K cut Q (xe y).2.2.2.1 T none (i :: is) ls st m → VK G y Q i.1 ls st m := by
      intro h
      by_cases hcut : cut i.1 = true
      · rw [show wp K cut Q (xe y).2.2.2.1 T none (i :: is) ls st m = K i.1 ls st m from if_pos hcut] at h
        exact hK _ _ _ _ hn h
      · have h' : ex (fun ls st m => wp K cut Q (xe y).2.2.2.1 T none is ls st m) (fun t ls st m => if t.toNat ≤ i.1 then K t.toNat ls st m else wp K cut Q (xe y).2.2.2.1 T (some t.toNat) is ls st m) Q (xe y).2.2.2.1 T i.2 ls st m := by
          rw [show wp K cut Q (xe y).2.2.2.1 T none (i :: is) ls st m = _ from if_neg hcut] at h
          exact h
        rcases hr with hr | hr
        · have key : ex (fun ls st m => ls.length ≤ (xe y).2.2.1 → VK G y Q (i.1 + len) ls st m) (fun t ls st m => ls.length ≤ (xe y).2.2.1 → VK G y Q t.toNat ls st m) Q (xe y).2.2.2.1 (Tri G) i.2 ls st m := by
            generalize i.2 = ins at h'
            refine ex_mono (nx := fun ls st m => wp K cut Q (xe y).2.2.2.1 T none is ls st m) (jp := fun t ls st m => if t.toNat ≤ i.1 then K t.toNat ls st m else wp K cut Q (xe y).2.2.2.1 T (some t.toNat) is ls st m) (T := T) ?_ ?_ ?_ ins ls st m h'
            · intro ls st m h hl
              cases is with
              | nil => exact h.elim
              | cons j l =>
                rw [← hnext j l rfl]
                exact (ih ls st m hl).1 j l rfl h
            · intro t ls st m h hl
              by_cases ht : t.toNat ≤ i.1
              · rw [if_pos ht] at h
                exact hK _ _ _ _ hl h
              · rw [if_neg ht] at h
                exact (ih ls st m hl).2 _ h
            · exact fun k as m Q1 Q2 q z => Tri.mono q (hT _ _ _ _ z)
          exact step hn hd hr hc key
        · rw [hr] at h'
          exact h'.elim
    refine ⟨fun i' l e h => ?_, fun t h => ?_⟩
    · cases e
      exact one h
    · by_cases ht : i.1 = t
      · rw [show wp K cut Q (xe y).2.2.2.1 T (some t) (i :: is) ls st m = wp K cut Q (xe y).2.2.2.1 T none (i :: is) ls st m from if_pos ht] at h
        rw [← ht]
        exact one h
      · rw [show wp K cut Q (xe y).2.2.2.1 T (some t) (i :: is) ls st m = _ from if_neg ht] at h
        exact (ih ls st m hn).2 t h
/-- a run from a place to a cut or to the end -/
def VC (G : xG) (y : Nat) (Q : xQt) (K : Nat → List Value → List Value → xM → Prop) (pc : Nat) (ls st : List Value) (m : xM) : Prop := (∀ pc ls st m, ls.length ≤ (xe y).2.2.1 → K pc ls st m → VK G y Q pc ls st m) → ls.length ≤ (xe y).2.2.1 → VK G y Q pc ls st m
theorem vc_wp {G : xG} {y : Nat} {Q : xQt} {K : Nat → List Value → List Value → xM → Prop} {T : Nat → List Value → xM → xQt → Prop} (hT : ∀ k as m Q1, T k as m Q1 → Tri G k as m Q1) (cut : Nat → Bool) {is : List xI} {pc : Nat} {rt0 : Option FieldType} (hrt : (xe y).2.2.2.1 = rt0) (hck : ckl y is = true) (hpc : is.head?.map (fun i => i.1) = some pc) {ls st : List Value} {m : xM} (h : wp K cut Q rt0 T none is ls st m) : VC G y Q K pc ls st m := by
  intro hK hl
  subst hrt
  cases is with
  | nil => simp at hpc
  | cons i is =>
    simp at hpc
    rw [← hpc]
    exact (wp_sound hT hK (i :: is) hck ls st m hl).1 i is rfl h
/-- weaker cuts -/
theorem vc_mono {G : xG} {y : Nat} {Q : xQt} {K K' : Nat → List Value → List Value → xM → Prop} {pc : Nat} {ls st : List Value} {m : xM} (hq : ∀ pc ls st m, K pc ls st m → VC G y Q K' pc ls st m) (h : VC G y Q K pc ls st m) : VC G y Q K' pc ls st m := fun hK hl => h (fun pc ls st m hl2 hk => hq pc ls st m hk hK hl2) hl
/-- a loop: by a measure -/
theorem vc_loop {G : xG} {y : Nat} {Q : xQt} {K : Nat → List Value → List Value → xM → Prop} {pc : Nat} (I : Nat → List Value → xM → Prop) (hs : ∀ n ls m, I n ls m → VC G y Q (fun pc' ls' st' m' => (pc' = pc ∧ st' = [] ∧ ∃ n', n' < n ∧ I n' ls' m') ∨ K pc' ls' st' m') pc ls [] m) : ∀ n ls m, I n ls m → VC G y Q K pc ls [] m := by
  intro n
  induction n using Nat.strongRecOn with
  | ind n ih =>
    intro ls m hI
    refine vc_mono ?_ (hs n ls m hI)
    intro pc' ls' st' m' h
    rcases h with ⟨rfl, rfl, n', hn, hI'⟩ | h
    · exact ih n' hn ls' m' hI'
    · exact fun hK hl => hK _ _ _ _ hl h
/-- more of the locals may be forgotten -/
theorem vk_sub {G : xG} {y : Nat} {Q : xQt} {pc : Nat} {ls ls' st : List Value} {m : xM} (hs : ∀ (i : Nat) (v : Value), ls'[i]? = some v → v ≠ .null → ls[i]? = some v) (h : VK G y Q pc ls' st m) : VK G y Q pc ls st m :=
  fun p e s mid args below meth c H locs sl C hP hS hL => h p e s mid args below meth c H locs sl C hP hS ⟨hL.1, hL.2.1, fun i v hv hn => hL.2.2 i v (hs i v hv hn) hn⟩
theorem vc_sub {G : xG} {y : Nat} {Q : xQt} {K : Nat → List Value → List Value → xM → Prop} {pc : Nat} {ls ls' st : List Value} {m : xM} (hl : ls'.length = ls.length) (hs : ∀ (i : Nat) (v : Value), ls'[i]? = some v → v ≠ .null → ls[i]? = some v) (h : VC G y Q K pc ls' st m) : VC G y Q K pc ls st m := fun hK hn => vk_sub hs (h hK (by omega))
/-- how the arguments lie in the locals -/
def lay : List Value → List Value
  | [] => []
  | .long x :: l => .long x :: .null :: lay l
  | .double x :: l => .double x :: .null :: lay l
  | v :: l => v :: lay l
theorem lay_args {G : xG} (hG : G.2.2.2.2.2.2.category = 1) : ∀ (as : List Value) (j i : Nat) (v : Value), (lay as)[i]? = some v → v ≠ .null → (j + i, cv G v) ∈ lv_args j (as.map (cv G)) := by
  intro as
  induction as with
  | nil => intro j i v h; simp [lay] at h
  | cons a l ih =>
    intro j i v h hv
    have two : ∀ (w : Value), w.category = 2 → cv G w = w → (w :: .null :: lay l)[i]? = some v → (j + i, cv G v) ∈ lv_args j ((w :: l).map (cv G)) := by
      intro w hw hcw h
      show _ ∈ (j, cv G w) :: lv_args (if (cv G w).category = 2 then j + 2 else j + 1) (l.map (cv G))
      rw [hcw, if_pos hw]
      match i, h with
      | 0, h =>
        simp at h
        subst h
        rw [hcw]
        exact List.mem_cons_self
      | 1, h =>
        simp at h
        exact absurd h.symm hv
      | i + 2, h =>
        have := ih (j + 2) i v (by simpa using h) hv
        rw [show j + (i + 2) = j + 2 + i by omega]
        exact List.mem_cons_of_mem _ this
    have one : ∀ (w : Value), ¬ (cv G w).category = 2 → (w :: lay l)[i]? = some v → (j + i, cv G v) ∈ lv_args j ((w :: l).map (cv G)) := by
      intro w hw h
      show _ ∈ (j, cv G w) :: lv_args (if (cv G w).category = 2 then j + 2 else j + 1) (l.map (cv G))
      rw [if_neg hw]
      match i, h with
      | 0, h =>
        simp at h
        subst h
        exact List.mem_cons_self
      | i + 1, h =>
        have := ih (j + 1) i v (by simpa using h) hv
        rw [show j + (i + 1) = j + 1 + i by omega]
        exact List.mem_cons_of_mem _ this
    cases a with
    | long x => exact two _ rfl rfl h
    | double x => exact two _ rfl rfl h
    | null => exact one _ (by show ¬ (G.2.2.2.2.2.2).category = 2; omega) h
    | int x => exact one _ (by simp [cv, Value.category]) h
    | float x => exact one _ (by simp [cv, Value.category]) h
    | ref x => exact one _ (by simp [cv, Value.category]) h
    | retAddr x => exact one _ (by simp [cv, Value.category]) h
theorem lay_len {G : xG} (hG : G.2.2.2.2.2.2.category = 1) : ∀ (as : List Value), (lg_sl (as.map (cv G))).length = (lay as).length
  | [] => rfl
  | a :: l => by
    have ih := lay_len hG l
    have e : lg_sl ((a :: l).map (cv G)) = (if (cv G a).category = 2 then [.val (cv G a), .second] else [.val (cv G a)]) ++ lg_sl (l.map (cv G)) := by simp [lg_sl]
    rw [e, List.length_append, ih]
    cases a with
    | null =>
      rw [if_neg (by show ¬ (G.2.2.2.2.2.2).category = 2; omega)]
      simp [lay]; omega
    | _ => simp [cv, Value.category, lay]; omega
/-- a method's contract, out of a run from its entry -/
theorem tri_vc {G : xG} {y : Nat} {as ls : List Value} {m : xM} {Q : xQt} (hk : ¬ (xe y).2.2.2.2.2.2.2 = 2) (hls : ls = lay as ++ List.replicate ((xe y).2.2.1 - (lay as).length) .null) (hlen : (lay as).length ≤ (xe y).2.2.1) (h : VC G y Q (fun _ _ _ _ => False) 0 ls [] m) : Tri G y as m Q := by
  intro hi
  obtain ⟨w1, ⟨w2, w3, w4, w5⟩, w6, w7⟩ := xe_kind hk
  refine Met.ofW (cc := (xe y).2.1) (maxL := (xe y).2.2.1) (ret := (xe y).2.2.2.1) w3 rfl ?_
  intro p e s mid args below meth c s₁ B hml hv
  obtain ⟨rfl, hP, hKs, hE⟩ := hv
  have hts := atoms_spec (ws := yw y) B.pre
  have hown : s.vm.findClass (xe y).1.cls = some mid.cls := findClass_of_methodNamed B.named
  have C : Cx G y p s mid (as.map (cv G)).toArray meth c := ⟨B.exec, B.bytes, hml, B.returns, B.notSynchronized, by rw [w4]; exact hown, fun w hw => hts w (List.mem_cons_of_mem _ hw), hKs, hE, hi⟩
  have hl := lv_entry (as.map (cv G)) (n := (xe y).2.2.1) (by rw [lay_len hi.2]; exact hlen)
  rw [lg_entry_eq]
  refine h (fun _ _ _ _ _ q => q.elim) ?_ p e s mid _ below meth c s.heap [] _ C hP va_S.rf ⟨hl.1, hl.2.1, fun i v hv hn => ?_⟩
  · rw [hls, List.length_append, List.length_replicate]
    omega
  · have hv2 : (lay as)[i]? = some v := by
      rw [hls] at hv
      by_cases hi2 : i < (lay as).length
      · rwa [List.getElem?_append_left hi2] at hv
      · rw [List.getElem?_append_right (by omega), List.getElem?_replicate] at hv
        split at hv
        · cases hv
          exact absurd rfl hn
        · cases hv
    have := hl.2.2 _ (lay_args hi.2 as 0 i v hv2 hn)
    simpa using this
/-- a method without a loop -/
theorem tri_wp {G : xG} {y : Nat} {as ls : List Value} {m : xM} {Q : xQt} {T : Nat → List Value → xM → xQt → Prop} (hT : ∀ k as m Q1, T k as m Q1 → Tri G k as m Q1) {is : List xI} {rt0 : Option FieldType} (hck : ckl y is = true) (hk : ¬ (xe y).2.2.2.2.2.2.2 = 2) (hrt : (xe y).2.2.2.1 = rt0) (hls : ls = lay as ++ List.replicate ((xe y).2.2.1 - (lay as).length) .null) (hlen : (lay as).length ≤ (xe y).2.2.1) (hi : is.head?.map (fun i => i.1) = some 0) (h : wp (fun _ _ _ _ => False) (fun _ => false) Q rt0 T none is ls [] m) : Tri G y as m Q :=
  tri_vc hk hls hlen (vc_wp hT (fun _ => false) hrt hck hi h)
/-- a table of callees -/
def TT (tab : List (Nat × (List Value → xM → xQt → Prop))) (k : Nat) (as : List Value) (m : xM) (Q : xQt) : Prop := match tab with
  | [] => False
  | e :: tab => if e.1 = k then e.2 as m Q else TT tab k as m Q
theorem TTn {G : xG} : ∀ k as m Q1, TT [] k as m Q1 → Tri G k as m Q1 := fun _ _ _ _ h => h.elim
theorem TTc {G : xG} {y : Nat} {S : List Value → xM → xQt → Prop} {tab : List (Nat × (List Value → xM → xQt → Prop))} (h1 : ∀ as m Q, S as m Q → Tri G y as m Q) (h2 : ∀ k as m Q1, TT tab k as m Q1 → Tri G k as m Q1) : ∀ k as m Q1, TT ((y, S) :: tab) k as m Q1 → Tri G k as m Q1 := by
  intro k as m Q1 h
  by_cases e : y = k
  · rw [show TT ((y, S) :: tab) k as m Q1 = S as m Q1 from if_pos e] at h
    rw [← e]
    exact h1 as m Q1 h
  · rw [show TT ((y, S) :: tab) k as m Q1 = TT tab k as m Q1 from if_neg e] at h
    exact h2 k as m Q1 h
theorem TTS : (∀ (e : Nat × (List Value → xM → xQt → Prop)) (tab : List (Nat × (List Value → xM → xQt → Prop))) (k : Nat) (as : List Value) (m : xM) (Q : xQt), TT (e :: tab) k as m Q = if e.1 = k then e.2 as m Q else TT tab k as m Q) := fun _ _ _ _ _ _ => rfl
/-- the locals that a loop's head asks for -/
def subL : List Value → List Value → Prop
  | [], [] => True
  | .null :: l, _ :: l' => subL l l'
  | v :: l, w :: l' => v = w ∧ subL l l'
  | _, _ => False
theorem subL_len : ∀ {l l' : List Value}, subL l l' → l.length = l'.length ∧ ∀ (i : Nat) (v : Value), l[i]? = some v → v ≠ .null → l'[i]? = some v
  | [], [], _ => ⟨rfl, fun i v h => by simp at h⟩
  | [], _ :: _, h => h.elim
  | v :: l, [], h => by cases v <;> exact h.elim
  | v :: l, w :: l', h => by
    by_cases hv : v = .null
    · subst hv
      obtain ⟨h1, h2⟩ := subL_len (l := l) (l' := l') h
      refine ⟨by simp [h1], fun i u hu hn => ?_⟩
      cases i with
      | zero => simp at hu; exact absurd hu.symm hn
      | succ i => simpa using h2 i u (by simpa using hu) hn
    · have h' : v = w ∧ subL l l' := by cases v <;> first | exact h | exact absurd rfl hv
      obtain ⟨h1, h2⟩ := subL_len h'.2
      refine ⟨by simp [h1], fun i u hu hn => ?_⟩
      cases i with
      | zero => simp at hu ⊢; rw [← h'.1]; exact hu
      | succ i => simpa using h2 i u (by simpa using hu) hn
theorem subS : (subL [] [] = True) ∧ (∀ (l l' : List Value) (w : Value), subL (.null :: l) (w :: l') = subL l l') ∧ (∀ (x y : Int32) (l l' : List Value), subL (.int x :: l) (.int y :: l') = (x = y ∧ subL l l')) ∧ (∀ (x y : Int64) (l l' : List Value), subL (.long x :: l) (.long y :: l') = (x = y ∧ subL l l')) ∧ (∀ (x y : Nat) (l l' : List Value), subL (.ref x :: l) (.ref y :: l') = (x = y ∧ subL l l')) := by
  refine ⟨rfl, fun _ _ _ => rfl, fun x y l l' => ?_, fun x y l l' => ?_, fun x y l l' => ?_⟩
  · show (Value.int x = Value.int y ∧ subL l l') = _
    simp
  · show (Value.long x = Value.long y ∧ subL l l') = _
    simp
  · show (Value.ref x = Value.ref y ∧ subL l l') = _
    simp
/-- a counted loop, whose states are told by their number -/
theorem vc_for {G : xG} {y : Nat} {Q : xQt} {K : Nat → List Value → List Value → xM → Prop} {pc : Nat} (n : Nat) (L : Nat → List Value) (M : Nat → xM) (hs : ∀ i, i < n → VC G y Q (fun pc' ls' st' m' => (pc' = pc ∧ st' = [] ∧ subL (L (i + 1)) ls' ∧ m' = M (i + 1)) ∨ K pc' ls' st' m') pc (L i) [] (M i)) (hx : VC G y Q K pc (L n) [] (M n)) : VC G y Q K pc (L 0) [] (M 0) := by
  have key : ∀ d i, i + d = n → VC G y Q K pc (L i) [] (M i) := by
    intro d
    induction d with
    | zero =>
      intro i hi
      rw [show i = n by omega]
      exact hx
    | succ d ih =>
      intro i hi
      refine vc_mono ?_ (hs i (by omega))
      intro pc' ls' st' m' h
      rcases h with ⟨rfl, rfl, h1, rfl⟩ | h
      · obtain ⟨g1, g2⟩ := subL_len h1
        exact vc_sub g1 g2 (ih (i + 1) (by omega))
      · exact fun hK hl => hK _ _ _ _ hl h
  exact key n 0 (by omega)
/-- up to a loop's head, and from there on -/
theorem vc_seq {G : xG} {y : Nat} {Q : xQt} {K : Nat → List Value → List Value → xM → Prop} {pc pc1 : Nat} {ls ls1 : List Value} {m m1 : xM} (h1 : VC G y Q (fun pc' ls' st' m' => (pc' = pc1 ∧ st' = [] ∧ subL ls1 ls' ∧ m' = m1) ∨ K pc' ls' st' m') pc ls [] m) (h2 : VC G y Q K pc1 ls1 [] m1) : VC G y Q K pc ls [] m := by
  refine vc_mono ?_ h1
  intro pc' ls' st' m' h
  rcases h with ⟨rfl, rfl, h3, rfl⟩ | h
  · obtain ⟨g1, g2⟩ := subL_len h3
    exact vc_sub g1 g2 h2
  · exact fun hK hl => hK _ _ _ _ hl h
end
section
def isC (c : Nat) : Prop := c = 7 ∨ c = 21 ∨ c = 35 ∨ c = 49 ∨ c = 65
theorem shC {c : Nat} (h : isC c) : sh c = (4, 0) ∧ rt c 6 = c + 1 ∧ rt c 7 = c + 2 ∧ rt c 8 = c + 3 ∧ rt c 9 = c + 4 ∧ rt c 10 = c + 5 ∧ rt c 11 = c + 6 ∧ rt c 12 = c + 7 ∧ rt c 13 = c + 8 ∧ rt c 14 = c + 9 ∧ rt c 15 = c + 10 ∧ rt c 16 = c + 11 ∧ rt c 17 = c + 12 ∧ rt c 18 = c + 13 ∧ sh (c + 1) = (0, 6) ∧ sh (c + 2) = (0, 6) ∧ sh (c + 3) = (0, 6) ∧ sh (c + 4) = (0, 6) ∧ sh (c + 5) = (0, 6) ∧ sh (c + 6) = (0, 6) ∧ sh (c + 7) = (0, 6) ∧ sh (c + 8) = (0, 6) ∧ sh (c + 9) = (0, 12) ∧ sh (c + 10) = (0, 12) ∧ sh (c + 11) = (0, 12) ∧ sh (c + 12) = (0, 12) ∧ sh (c + 13) = (0, 12) := by
  rcases h with rfl | rfl | rfl | rfl | rfl <;> decide +kernel
theorem isCl : isC 7 = True ∧ isC 21 = True ∧ isC 35 = True ∧ isC 49 = True ∧ isC 65 = True := by simp [isC]
theorem shO : sh 0 = (10, 0) ∧ rt 0 0 = 1 ∧ rt 0 1 = 5 ∧ rt 0 2 = 7 ∧ rt 0 3 = 21 ∧ rt 0 4 = 35 ∧ rt 0 5 = 49 ∧ rt 0 6 = 63 ∧ rt 0 7 = 64 ∧ rt 0 8 = 81 ∧ rt 0 9 = 84 ∧ sh 1 = (8, 0) ∧ rt 1 0 = 2 ∧ rt 1 1 = 3 ∧ rt 1 2 = 4 ∧ sh 2 = (0, 8) ∧ sh 3 = (0, 8) ∧ sh 4 = (0, 320) ∧ sh 5 = (6, 0) ∧ rt 5 0 = 6 ∧ sh 6 = (1, 400) ∧ sh 63 = (5, 0) ∧ sh 79 = (5, 0) ∧ sh 64 = (9, 0) ∧ rt 64 0 = 65 ∧ rt 64 1 = 79 ∧ rt 64 2 = 80 ∧ sh 80 = (0, 81) ∧ sh 81 = (7, 0) ∧ rt 81 0 = 82 ∧ rt 81 1 = 83 ∧ sh 82 = (0, 6) ∧ sh 83 = (0, 6) ∧ sh 84 = (3, 0) ∧ rt 84 0 = 85 ∧ sh 85 = (0, 16) ∧ sh 7 = (4, 0) ∧ sh 21 = (4, 0) ∧ sh 35 = (4, 0) ∧ sh 49 = (4, 0) ∧ sh 65 = (4, 0) := by decide +kernel
theorem shM : sh 86 = (11, 0) ∧ rt 86 2 = 87 ∧ rt 86 3 = 88 ∧ rt 86 4 = 89 ∧ rt 86 5 = 90 ∧ rt 86 6 = 91 ∧ rt 86 8 = 92 ∧ rt 86 9 = 93 ∧ rt 86 20 = 94 ∧ rt 86 25 = 95 ∧ rt 86 26 = 96 ∧ rt 86 27 = 97 ∧ rt 86 28 = 98 ∧ rt 86 29 = 99 ∧ rt 86 30 = 100 ∧ sh 87 = (0, 8) ∧ sh 88 = (0, 8) ∧ sh 89 = (0, 320) ∧ sh 90 = (0, 65) ∧ sh 91 = (0, 65) ∧ sh 92 = (0, 49) ∧ sh 93 = (0, 400) ∧ sh 94 = (0, 49) ∧ sh 95 = (0, 6) ∧ sh 96 = (0, 6) ∧ sh 97 = (2, 2) ∧ sh 98 = (0, 130) ∧ sh 99 = (0, 98) ∧ sh 100 = (0, 16) := by decide +kernel
theorem shK : sh 1000 = (50, 0) ∧ sh 1001 = (50, 0) ∧ sh 1002 = (50, 0) ∧ sh 1003 = (50, 0) ∧ sh 1010 = (51, 3) ∧ sh 1011 = (51, 3) ∧ sh 1012 = (51, 4) ∧ sh 1013 = (51, 4) ∧ sh 1020 = (52, 6) ∧ sh 1021 = (52, 6) ∧ sh 1022 = (52, 6) := by decide +kernel
theorem popR (x : Nat) (st : List Value) (k : Nat → List Value → Prop) : p_r (.ref x :: st) k = k x st := rfl
theorem ne10 : ((10 : Int32) = 0) = False := by decide
theorem litS : ((0 : Int32) = 1) = False ∧ ((0 : Int32) = 2) = False ∧ ((0 : Int32) = 3) = False ∧ ((0 : Int32) = 4) = False ∧ ((0 : Int32) = 5) = False ∧ ((1 : Int32) = 0) = False ∧ ((1 : Int32) = 2) = False ∧ ((1 : Int32) = 3) = False ∧ ((1 : Int32) = 4) = False ∧ ((1 : Int32) = 5) = False ∧ ((2 : Int32) = 0) = False ∧ ((2 : Int32) = 1) = False ∧ ((2 : Int32) = 3) = False ∧ ((2 : Int32) = 4) = False ∧ ((2 : Int32) = 5) = False ∧ ((3 : Int32) = 0) = False ∧ ((3 : Int32) = 1) = False ∧ ((3 : Int32) = 2) = False ∧ ((3 : Int32) = 4) = False ∧ ((3 : Int32) = 5) = False ∧ ((4 : Int32) = 0) = False ∧ ((4 : Int32) = 1) = False ∧ ((4 : Int32) = 2) = False ∧ ((4 : Int32) = 3) = False ∧ ((4 : Int32) = 5) = False ∧ ((5 : Int32) = 0) = False ∧ ((5 : Int32) = 1) = False ∧ ((5 : Int32) = 2) = False ∧ ((5 : Int32) = 3) = False ∧ ((5 : Int32) = 4) = False := by simp
def isD (d : Nat) : Prop := d = 63 ∨ d = 79
theorem shD {d : Nat} (h : isD d) : sh d = (5, 0) := by rcases h with rfl | rfl <;> decide +kernel
theorem isDl : isD 63 = True ∧ isD 79 = True := by simp [isD]
/-- the Model's two rows of how things are -/
def isR (r : Nat) : Prop := r = 92 ∨ r = 94
theorem shR {r : Nat} (h : isR r) : sh r = (0, 49) := by rcases h with rfl | rfl <;> decide +kernel
theorem isRl : isR 92 = True ∧ isR 94 = True := by simp [isR]
abbrev ix (i : Int32) : Nat := i.toNatClampNeg
def bI (p : Prop) [Decidable p] : Int32 := if p then 1 else 0
theorem bI_0 {p : Prop} [Decidable p] : (bI p = 0) = ¬ p := by by_cases h : p <;> simp [bI, h]
theorem bI_1 {p : Prop} [Decidable p] : (bI p = 1) = p := by by_cases h : p <;> simp [bI, h]
theorem bI_and {p : Prop} [Decidable p] : bI p &&& 1 = bI p := by by_cases h : p <;> simp [bI, h]
theorem bI_t {p : Prop} [Decidable p] (h : p) : bI p = 1 := by simp [bI, h]
theorem bI_f {p : Prop} [Decidable p] (h : ¬ p) : bI p = 0 := by simp [bI, h]
theorem and01 : ((0 : Int32) &&& 1 = 0) = True ∧ ((1 : Int32) &&& 1 = 1) = True := ⟨by decide, by decide⟩
/-- sums over the first n -/
def fd (f : Nat → Int32) : Nat → Int32
  | 0 => 0
  | n + 1 => fd f n + f n
theorem fd_c {f g : Nat → Int32} : ∀ {n : Nat}, (∀ i, i < n → f i = g i) → fd f n = fd g n
  | 0, _ => rfl
  | n + 1, h => by rw [fd, fd, fd_c (fun i hi => h i (by omega)), h n (by omega)]
theorem ix_le (N : Int32) {i : Nat} (hi : i < 2 ^ 31) : (N ≤ nI i) = (ix N ≤ i) := by
  unfold ix
  rw [Int32.le_iff_toInt_le, nI_toInt hi]
  apply propext
  show _ ↔ N.toInt.toNat ≤ i
  omega
theorem ix_nI {i : Nat} (hi : i < 2 ^ 31) : ix (nI i) = i := nI_clamp hi
theorem ix_max {N : Int32} {k : Nat} (h : N ≤ nI k) (hk : k < 2 ^ 31) : ix N ≤ k := by rw [ix_le N hk] at h; exact h
theorem ix_of {N : Int32} (h : ¬ N < 0) : N = nI (ix N) ∧ ix N < 2 ^ 31 := by
  obtain ⟨j, hj, rfl⟩ := nI_of h
  rw [ix_nI hj]
  exact ⟨rfl, hj⟩
theorem xin {i : Int32} {n : Nat} (h0 : ¬ i < 0) (h : ix i < n) : vp_in i n := fun q => q.elim h0 (fun q => by unfold ix at h; omega)
theorem xin_lt {i : Int32} {n : Nat} (h : vp_in i n) : ¬ i < 0 ∧ ix i < n := ⟨fun q => h (Or.inl q), Nat.not_le.mp fun q => h (Or.inr q)⟩
theorem xin_nI {i n : Nat} (h : i < n) (hn : n ≤ 1000) : vp_in (nI i) n := vp_in_nI h (by omega)
theorem xin_lit {n N : Nat} (h : n < N) (hN : N ≤ 1000) : vp_in (OfNat.ofNat n) N := vp_in_nI h (by omega)
theorem nI_lit (n : Nat) : (OfNat.ofNat n : Int32) = nI n := rfl
theorem xa_1 (m : xM) (k q : Nat) (f : Nat → Int32) : (xa m k f).1 q = if q = k then f else m.1 q := rfl
theorem xa_2 (m : xM) (k : Nat) (f : Nat → Int32) : (xa m k f).2 = m.2 := rfl
theorem xb_1 (m : xM) (k : Nat) (f : Nat → Int64) : (xb m k f).1 = m.1 := rfl
theorem xb_2 (m : xM) (k q : Nat) (f : Nat → Int64) : (xb m k f).2 q = if q = k then f else m.2 q := rfl
theorem xa_xa (m : xM) (k : Nat) (f g : Nat → Int32) : xa (xa m k f) k g = xa m k g := by
  unfold xa
  refine Prod.ext (funext fun q => ?_) rfl
  by_cases h : q = k <;> simp [h]
theorem xa_id (m : xM) (k : Nat) : xa m k (m.1 k) = m := by
  unfold xa
  refine Prod.ext (funext fun q => ?_) rfl
  by_cases h : q = k <;> simp [h]
theorem upd_at (f : Nat → Int32) (i j : Nat) (x : Int32) : upd f i x j = if j = i then x else f j := rfl
theorem cmpS : (∀ x y : Int64, (lg_cmp x y < 0) = (x < y)) ∧ (∀ x y : Int64, (0 < lg_cmp x y) = (y < x)) ∧ (∀ x y : Int64, (lg_cmp x y = 0) = (x = y)) ∧ (∀ x y : Int64, (0 ≤ lg_cmp x y) = (y ≤ x)) ∧ (∀ x y : Int64, (lg_cmp x y ≤ 0) = (x ≤ y)) := by
  refine ⟨fun x y => ?_, fun x y => ?_, fun x y => ?_, fun x y => ?_, fun x y => ?_⟩ <;> unfold lg_cmp <;> apply propext <;> simp only [gt_iff_lt, Int64.lt_iff_toInt_lt, Int64.le_iff_toInt_le, ← Int64.toInt_inj] <;> split <;> (try split) <;> simp <;> omega
end
section
theorem in_of {b N : Int32} {n : Nat} (h0 : ¬ b < 0) (h : ¬ N ≤ b) (hN : N ≤ nI n) (hn : n < 2 ^ 31) : vp_in b n := by
  obtain ⟨e, e2⟩ := ix_of h0
  rw [e, ix_le _ e2] at h
  have := ix_max hN hn
  exact xin h0 (by omega)
def S63 (as : List Value) (m : xM) (Q : xQt) : Prop := match as with
  | [.ref c] => (isC c) ∧ Q (some (.int (bI (m.1 c 4 = 0)))) (m)
  | _ => False
theorem s63 (c : Nat) (m : xM) (Q : xQt) : S63 [.ref c] m Q = ((isC c) ∧ Q (some (.int (bI (m.1 c 4 = 0)))) (m)) := rfl
theorem t63 {G : xG} : ∀ as m Q, S63 as m Q → Tri G 63 as m Q := by
  intro as m Q h
  match as, h with
  | [.ref c], h =>
    obtain ⟨hc, h⟩ := h
    refine tri_wp (T := TT []) (ls := [.ref c]) TTn c63 (by decide +kernel) (rt0 := some .boolean) rfl rfl (Nat.le_of_ble_eq_true rfl) rfl ?_
    simp only [i63, wp_iinc, wpE0, wpE1, wpE2, wpE3, wpE4, wpE5, wpJ, okS, lt4S, popR, litS, Int32.reduceLT, Int32.reduceLE, List.getElem?_cons_zero, List.getElem?_cons_succ, Bool.false_eq_true, ↓reduceIte, Nat.reduceMod, Nat.reduceDiv, Nat.reduceAdd, Nat.reduceSub, Nat.reduceMul, Nat.reduceLeDiff, Nat.reduceEqDiff, Nat.reduceBEq, Int.reduceToNat, Int.reduceAdd, Int32.reduceOfInt, Int64.reduceOfInt, Int32.reduceToNatClampNeg, Int32.reduceOfNat, Bool.or_self, Bool.or_false, Bool.false_or, Bool.true_or, Bool.or_true, true_and, and_true, false_and, and_false, List.set_cons_zero, List.set_cons_succ, List.take_succ_cons, List.take_zero, List.drop_succ_cons, List.drop_zero, List.reverse_cons, List.reverse_nil, List.nil_append, List.cons_append, List.length_cons, List.length_nil, Option.toList_some, Option.toList_none, not_true_eq_false, not_false_eq_true, forall_const, true_implies, false_implies, nrw, TTS, shC hc, and01, isCl, hc]
    repeat' (first | apply And.intro | intro _)
    all_goals first | trivial | exact h | (simp only [*, bI, ix, not_true_eq_false, not_false_eq_true, and_true, true_and, and_false, false_and, and_self, or_true, true_or, or_false, false_or, ↓reduceIte, if_true, if_false, eq_self] at h; exact h) | (simp only [*, not_true_eq_false, not_false_eq_true, and_true, true_and, and_false, false_and, and_self, or_true, true_or, or_false, false_or, ↓reduceIte, if_true, if_false, eq_self]; done)

def S59 (as : List Value) (m : xM) (Q : xQt) : Prop := match as with
  | [.ref c, .int b] => (isC c) ∧ Q (some (.int (bI (¬ b < 0 ∧ ¬ m.1 c 4 ≤ b)))) (m)
  | _ => False
theorem s59 (c : Nat) (b : Int32) (m : xM) (Q : xQt) : S59 [.ref c, .int b] m Q = ((isC c) ∧ Q (some (.int (bI (¬ b < 0 ∧ ¬ m.1 c 4 ≤ b)))) (m)) := rfl
theorem t59 {G : xG} : ∀ as m Q, S59 as m Q → Tri G 59 as m Q := by
  intro as m Q h
  match as, h with
  | [.ref c, .int b], h =>
    obtain ⟨hc, h⟩ := h
    refine tri_wp (T := TT []) (ls := [.ref c, .int b]) TTn c59 (by decide +kernel) (rt0 := some .boolean) rfl rfl (Nat.le_of_ble_eq_true rfl) rfl ?_
    simp only [i59, wp_iinc, wpE0, wpE1, wpE2, wpE3, wpE4, wpE5, wpJ, okS, lt4S, popR, litS, Int32.reduceLT, Int32.reduceLE, List.getElem?_cons_zero, List.getElem?_cons_succ, Bool.false_eq_true, ↓reduceIte, Nat.reduceMod, Nat.reduceDiv, Nat.reduceAdd, Nat.reduceSub, Nat.reduceMul, Nat.reduceLeDiff, Nat.reduceEqDiff, Nat.reduceBEq, Int.reduceToNat, Int.reduceAdd, Int32.reduceOfInt, Int64.reduceOfInt, Int32.reduceToNatClampNeg, Int32.reduceOfNat, Bool.or_self, Bool.or_false, Bool.false_or, Bool.true_or, Bool.or_true, true_and, and_true, false_and, and_false, List.set_cons_zero, List.set_cons_succ, List.take_succ_cons, List.take_zero, List.drop_succ_cons, List.drop_zero, List.reverse_cons, List.reverse_nil, List.nil_append, List.cons_append, List.length_cons, List.length_nil, Option.toList_some, Option.toList_none, not_true_eq_false, not_false_eq_true, forall_const, true_implies, false_implies, nrw, TTS, shC hc, and01, isCl, hc]
    repeat' (first | apply And.intro | intro _)
    all_goals first | trivial | exact h | (simp only [*, bI, ix, not_true_eq_false, not_false_eq_true, and_true, true_and, and_false, false_and, and_self, or_true, true_or, or_false, false_or, ↓reduceIte, if_true, if_false, eq_self] at h; exact h) | (simp only [*, not_true_eq_false, not_false_eq_true, and_true, true_and, and_false, false_and, and_self, or_true, true_or, or_false, false_or, ↓reduceIte, if_true, if_false, eq_self]; done)

def S55 (as : List Value) (m : xM) (Q : xQt) : Prop := match as with
  | [.ref c, .int b] => (isC c) ∧ Q (some (.int (bI (¬ b < 0 ∧ ¬ m.1 c 5 ≤ b)))) (m)
  | _ => False
theorem s55 (c : Nat) (b : Int32) (m : xM) (Q : xQt) : S55 [.ref c, .int b] m Q = ((isC c) ∧ Q (some (.int (bI (¬ b < 0 ∧ ¬ m.1 c 5 ≤ b)))) (m)) := rfl
theorem t55 {G : xG} : ∀ as m Q, S55 as m Q → Tri G 55 as m Q := by
  intro as m Q h
  match as, h with
  | [.ref c, .int b], h =>
    obtain ⟨hc, h⟩ := h
    refine tri_wp (T := TT []) (ls := [.ref c, .int b]) TTn c55 (by decide +kernel) (rt0 := some .boolean) rfl rfl (Nat.le_of_ble_eq_true rfl) rfl ?_
    simp only [i55, wp_iinc, wpE0, wpE1, wpE2, wpE3, wpE4, wpE5, wpJ, okS, lt4S, popR, litS, Int32.reduceLT, Int32.reduceLE, List.getElem?_cons_zero, List.getElem?_cons_succ, Bool.false_eq_true, ↓reduceIte, Nat.reduceMod, Nat.reduceDiv, Nat.reduceAdd, Nat.reduceSub, Nat.reduceMul, Nat.reduceLeDiff, Nat.reduceEqDiff, Nat.reduceBEq, Int.reduceToNat, Int.reduceAdd, Int32.reduceOfInt, Int64.reduceOfInt, Int32.reduceToNatClampNeg, Int32.reduceOfNat, Bool.or_self, Bool.or_false, Bool.false_or, Bool.true_or, Bool.or_true, true_and, and_true, false_and, and_false, List.set_cons_zero, List.set_cons_succ, List.take_succ_cons, List.take_zero, List.drop_succ_cons, List.drop_zero, List.reverse_cons, List.reverse_nil, List.nil_append, List.cons_append, List.length_cons, List.length_nil, Option.toList_some, Option.toList_none, not_true_eq_false, not_false_eq_true, forall_const, true_implies, false_implies, nrw, TTS, shC hc, and01, isCl, hc]
    repeat' (first | apply And.intro | intro _)
    all_goals first | trivial | exact h | (simp only [*, bI, ix, not_true_eq_false, not_false_eq_true, and_true, true_and, and_false, false_and, and_self, or_true, true_or, or_false, false_or, ↓reduceIte, if_true, if_false, eq_self] at h; exact h) | (simp only [*, not_true_eq_false, not_false_eq_true, and_true, true_and, and_false, false_and, and_self, or_true, true_or, or_false, false_or, ↓reduceIte, if_true, if_false, eq_self]; done)

def S56 (as : List Value) (m : xM) (Q : xQt) : Prop := match as with
  | [.ref c, .int b] => (isC c) ∧ (vp_in b 12) ∧ Q (some (.int (bI (¬ m.1 (c + 13) (ix b) ≤ 0)))) (m)
  | _ => False
theorem s56 (c : Nat) (b : Int32) (m : xM) (Q : xQt) : S56 [.ref c, .int b] m Q = ((isC c) ∧ (vp_in b 12) ∧ Q (some (.int (bI (¬ m.1 (c + 13) (ix b) ≤ 0)))) (m)) := rfl
theorem t56 {G : xG} : ∀ as m Q, S56 as m Q → Tri G 56 as m Q := by
  intro as m Q h
  match as, h with
  | [.ref c, .int b], h =>
    obtain ⟨hc, hb, h⟩ := h
    refine tri_wp (T := TT []) (ls := [.ref c, .int b]) TTn c56 (by decide +kernel) (rt0 := some .boolean) rfl rfl (Nat.le_of_ble_eq_true rfl) rfl ?_
    simp only [i56, wp_iinc, wpE0, wpE1, wpE2, wpE3, wpE4, wpE5, wpJ, okS, lt4S, popR, litS, Int32.reduceLT, Int32.reduceLE, List.getElem?_cons_zero, List.getElem?_cons_succ, Bool.false_eq_true, ↓reduceIte, Nat.reduceMod, Nat.reduceDiv, Nat.reduceAdd, Nat.reduceSub, Nat.reduceMul, Nat.reduceLeDiff, Nat.reduceEqDiff, Nat.reduceBEq, Int.reduceToNat, Int.reduceAdd, Int32.reduceOfInt, Int64.reduceOfInt, Int32.reduceToNatClampNeg, Int32.reduceOfNat, Bool.or_self, Bool.or_false, Bool.false_or, Bool.true_or, Bool.or_true, true_and, and_true, false_and, and_false, List.set_cons_zero, List.set_cons_succ, List.take_succ_cons, List.take_zero, List.drop_succ_cons, List.drop_zero, List.reverse_cons, List.reverse_nil, List.nil_append, List.cons_append, List.length_cons, List.length_nil, Option.toList_some, Option.toList_none, not_true_eq_false, not_false_eq_true, forall_const, true_implies, false_implies, nrw, TTS, shC hc, and01, isCl, hc, hb]
    repeat' (first | apply And.intro | intro _)
    all_goals first | trivial | exact h | (simp only [*, bI, ix, not_true_eq_false, not_false_eq_true, and_true, true_and, and_false, false_and, and_self, or_true, true_or, or_false, false_or, ↓reduceIte, if_true, if_false, eq_self] at h; exact h) | (simp only [*, not_true_eq_false, not_false_eq_true, and_true, true_and, and_false, false_and, and_self, or_true, true_or, or_false, false_or, ↓reduceIte, if_true, if_false, eq_self]; done)

def S57 (as : List Value) (m : xM) (Q : xQt) : Prop := match as with
  | [.ref c, .int b] => (isC c) ∧ (vp_in b 6) ∧ Q (some (.int (bI (¬ m.1 (c + 5) (ix b) = 0 ∧ ¬ m.1 (c + 5) (ix b) = 4)))) (m)
  | _ => False
theorem s57 (c : Nat) (b : Int32) (m : xM) (Q : xQt) : S57 [.ref c, .int b] m Q = ((isC c) ∧ (vp_in b 6) ∧ Q (some (.int (bI (¬ m.1 (c + 5) (ix b) = 0 ∧ ¬ m.1 (c + 5) (ix b) = 4)))) (m)) := rfl
theorem t57 {G : xG} : ∀ as m Q, S57 as m Q → Tri G 57 as m Q := by
  intro as m Q h
  match as, h with
  | [.ref c, .int b], h =>
    obtain ⟨hc, hb, h⟩ := h
    refine tri_wp (T := TT []) (ls := [.ref c, .int b]) TTn c57 (by decide +kernel) (rt0 := some .boolean) rfl rfl (Nat.le_of_ble_eq_true rfl) rfl ?_
    simp only [i57, wp_iinc, wpE0, wpE1, wpE2, wpE3, wpE4, wpE5, wpJ, okS, lt4S, popR, litS, Int32.reduceLT, Int32.reduceLE, List.getElem?_cons_zero, List.getElem?_cons_succ, Bool.false_eq_true, ↓reduceIte, Nat.reduceMod, Nat.reduceDiv, Nat.reduceAdd, Nat.reduceSub, Nat.reduceMul, Nat.reduceLeDiff, Nat.reduceEqDiff, Nat.reduceBEq, Int.reduceToNat, Int.reduceAdd, Int32.reduceOfInt, Int64.reduceOfInt, Int32.reduceToNatClampNeg, Int32.reduceOfNat, Bool.or_self, Bool.or_false, Bool.false_or, Bool.true_or, Bool.or_true, true_and, and_true, false_and, and_false, List.set_cons_zero, List.set_cons_succ, List.take_succ_cons, List.take_zero, List.drop_succ_cons, List.drop_zero, List.reverse_cons, List.reverse_nil, List.nil_append, List.cons_append, List.length_cons, List.length_nil, Option.toList_some, Option.toList_none, not_true_eq_false, not_false_eq_true, forall_const, true_implies, false_implies, nrw, TTS, shC hc, and01, isCl, hc, hb]
    repeat' (first | apply And.intro | intro _)
    all_goals first | trivial | exact h | (simp only [*, bI, ix, not_true_eq_false, not_false_eq_true, and_true, true_and, and_false, false_and, and_self, or_true, true_or, or_false, false_or, ↓reduceIte, if_true, if_false, eq_self] at h; exact h) | (simp only [*, not_true_eq_false, not_false_eq_true, and_true, true_and, and_false, false_and, and_self, or_true, true_or, or_false, false_or, ↓reduceIte, if_true, if_false, eq_self]; done)

def S69 (as : List Value) (m : xM) (Q : xQt) : Prop := match as with
  | [.ref c, .int b, .int a, .int w] => (isC c) ∧ (vp_in b 6) ∧ Q (some (.int (10 * m.1 (c + 2) (ix b) + a + (if w = 0 then 2 * m.1 c 1 else 0)))) (m)
  | _ => False
theorem s69 (c : Nat) (b : Int32) (a : Int32) (w : Int32) (m : xM) (Q : xQt) : S69 [.ref c, .int b, .int a, .int w] m Q = ((isC c) ∧ (vp_in b 6) ∧ Q (some (.int (10 * m.1 (c + 2) (ix b) + a + (if w = 0 then 2 * m.1 c 1 else 0)))) (m)) := rfl
theorem t69 {G : xG} : ∀ as m Q, S69 as m Q → Tri G 69 as m Q := by
  intro as m Q h
  match as, h with
  | [.ref c, .int b, .int a, .int w], h =>
    obtain ⟨hc, hb, h⟩ := h
    refine tri_wp (T := TT []) (ls := [.ref c, .int b, .int a, .int w]) TTn c69 (by decide +kernel) (rt0 := some .int) rfl rfl (Nat.le_of_ble_eq_true rfl) rfl ?_
    simp only [i69, wp_iinc, wpE0, wpE1, wpE2, wpE3, wpE4, wpE5, wpJ, okS, lt4S, popR, litS, Int32.reduceLT, Int32.reduceLE, List.getElem?_cons_zero, List.getElem?_cons_succ, Bool.false_eq_true, ↓reduceIte, Nat.reduceMod, Nat.reduceDiv, Nat.reduceAdd, Nat.reduceSub, Nat.reduceMul, Nat.reduceLeDiff, Nat.reduceEqDiff, Nat.reduceBEq, Int.reduceToNat, Int.reduceAdd, Int32.reduceOfInt, Int64.reduceOfInt, Int32.reduceToNatClampNeg, Int32.reduceOfNat, Bool.or_self, Bool.or_false, Bool.false_or, Bool.true_or, Bool.or_true, true_and, and_true, false_and, and_false, List.set_cons_zero, List.set_cons_succ, List.take_succ_cons, List.take_zero, List.drop_succ_cons, List.drop_zero, List.reverse_cons, List.reverse_nil, List.nil_append, List.cons_append, List.length_cons, List.length_nil, Option.toList_some, Option.toList_none, not_true_eq_false, not_false_eq_true, forall_const, true_implies, false_implies, nrw, TTS, shC hc, and01, isCl, hc, hb]
    repeat' (first | apply And.intro | intro _)
    all_goals first | trivial | exact h | (simp only [*, bI, ix, not_true_eq_false, not_false_eq_true, and_true, true_and, and_false, false_and, and_self, or_true, true_or, or_false, false_or, ↓reduceIte, if_true, if_false, eq_self] at h; exact h) | (simp only [*, not_true_eq_false, not_false_eq_true, and_true, true_and, and_false, false_and, and_self, or_true, true_or, or_false, false_or, ↓reduceIte, if_true, if_false, eq_self]; done)

def S72 (as : List Value) (m : xM) (Q : xQt) : Prop := match as with
  | [.ref c, .int b, .int w] => (isC c) ∧ (vp_in b 6) ∧ Q (some (.int (w * m.1 (c + 1) (ix b) / 10))) (m)
  | _ => False
theorem s72 (c : Nat) (b : Int32) (w : Int32) (m : xM) (Q : xQt) : S72 [.ref c, .int b, .int w] m Q = ((isC c) ∧ (vp_in b 6) ∧ Q (some (.int (w * m.1 (c + 1) (ix b) / 10))) (m)) := rfl
theorem t72 {G : xG} : ∀ as m Q, S72 as m Q → Tri G 72 as m Q := by
  intro as m Q h
  match as, h with
  | [.ref c, .int b, .int w], h =>
    obtain ⟨hc, hb, h⟩ := h
    refine tri_wp (T := TT []) (ls := [.ref c, .int b, .int w]) TTn c72 (by decide +kernel) (rt0 := some .int) rfl rfl (Nat.le_of_ble_eq_true rfl) rfl ?_
    simp only [i72, wp_iinc, wpE0, wpE1, wpE2, wpE3, wpE4, wpE5, wpJ, okS, lt4S, popR, litS, Int32.reduceLT, Int32.reduceLE, List.getElem?_cons_zero, List.getElem?_cons_succ, Bool.false_eq_true, ↓reduceIte, Nat.reduceMod, Nat.reduceDiv, Nat.reduceAdd, Nat.reduceSub, Nat.reduceMul, Nat.reduceLeDiff, Nat.reduceEqDiff, Nat.reduceBEq, Int.reduceToNat, Int.reduceAdd, Int32.reduceOfInt, Int64.reduceOfInt, Int32.reduceToNatClampNeg, Int32.reduceOfNat, Bool.or_self, Bool.or_false, Bool.false_or, Bool.true_or, Bool.or_true, true_and, and_true, false_and, and_false, List.set_cons_zero, List.set_cons_succ, List.take_succ_cons, List.take_zero, List.drop_succ_cons, List.drop_zero, List.reverse_cons, List.reverse_nil, List.nil_append, List.cons_append, List.length_cons, List.length_nil, Option.toList_some, Option.toList_none, not_true_eq_false, not_false_eq_true, forall_const, true_implies, false_implies, nrw, TTS, shC hc, and01, isCl, ne10, hc, hb]
    repeat' (first | apply And.intro | intro _)
    all_goals first | trivial | exact h | (simp only [*, bI, ix, not_true_eq_false, not_false_eq_true, and_true, true_and, and_false, false_and, and_self, or_true, true_or, or_false, false_or, ↓reduceIte, if_true, if_false, eq_self] at h; exact h) | (simp only [*, not_true_eq_false, not_false_eq_true, and_true, true_and, and_false, false_and, and_self, or_true, true_or, or_false, false_or, ↓reduceIte, if_true, if_false, eq_self]; done)

def S85 (as : List Value) (m : xM) (Q : xQt) : Prop := match as with
  | [.ref c, .int b, .int w] => (isC c) ∧ (m.1 c 5 ≤ 12) ∧ Q (some (.int (bI ((¬ b < 0 ∧ ¬ m.1 c 5 ≤ b) ∧ m.1 (c + 9) (ix b) = w)))) (m)
  | _ => False
theorem s85 (c : Nat) (b : Int32) (w : Int32) (m : xM) (Q : xQt) : S85 [.ref c, .int b, .int w] m Q = ((isC c) ∧ (m.1 c 5 ≤ 12) ∧ Q (some (.int (bI ((¬ b < 0 ∧ ¬ m.1 c 5 ≤ b) ∧ m.1 (c + 9) (ix b) = w)))) (m)) := rfl
theorem t85 {G : xG} : ∀ as m Q, S85 as m Q → Tri G 85 as m Q := by
  intro as m Q h
  match as, h with
  | [.ref c, .int b, .int w], h =>
    obtain ⟨hc, hn, h⟩ := h
    refine tri_wp (T := TT [(55, S55)]) (ls := [.ref c, .int b, .int w]) (TTc t55 TTn) c85 (by decide +kernel) (rt0 := some .boolean) rfl rfl (Nat.le_of_ble_eq_true rfl) rfl ?_
    simp only [i85, wp_iinc, wpE0, wpE1, wpE2, wpE3, wpE4, wpE5, wpJ, okS, lt4S, popR, litS, Int32.reduceLT, Int32.reduceLE, List.getElem?_cons_zero, List.getElem?_cons_succ, Bool.false_eq_true, ↓reduceIte, Nat.reduceMod, Nat.reduceDiv, Nat.reduceAdd, Nat.reduceSub, Nat.reduceMul, Nat.reduceLeDiff, Nat.reduceEqDiff, Nat.reduceBEq, Int.reduceToNat, Int.reduceAdd, Int32.reduceOfInt, Int64.reduceOfInt, Int32.reduceToNatClampNeg, Int32.reduceOfNat, Bool.or_self, Bool.or_false, Bool.false_or, Bool.true_or, Bool.or_true, true_and, and_true, false_and, and_false, List.set_cons_zero, List.set_cons_succ, List.take_succ_cons, List.take_zero, List.drop_succ_cons, List.drop_zero, List.reverse_cons, List.reverse_nil, List.nil_append, List.cons_append, List.length_cons, List.length_nil, Option.toList_some, Option.toList_none, not_true_eq_false, not_false_eq_true, forall_const, true_implies, false_implies, nrw, TTS, s55, shC hc, and01, isCl, bI_0, hc, hn]
    refine ⟨fun q => ?_, fun q => ?_⟩
    · rw [bI_f (fun z => q z.1)] at h; exact h
    · have q := Classical.not_not.mp q
      have hv : vp_in b 12 := in_of q.1 q.2 hn (by decide)
      refine ⟨hv, fun z => ?_, fun z => ?_⟩
      · rw [bI_t ⟨q, z⟩] at h; exact h
      · rw [bI_f (fun y => z y.2)] at h; exact h

def S78 (as : List Value) (m : xM) (Q : xQt) : Prop := match as with
  | [.ref c, .int b] => (isC c) ∧ (m.1 c 5 ≤ 12) ∧ Q (some (.int (fd (fun h => if m.1 (c + 9) h = b ∧ m.1 (c + 12) h = 0 then m.1 (c + 10) h else 0) (ix (m.1 c 5))))) (m)
  | _ => False
theorem s78 (c : Nat) (b : Int32) (m : xM) (Q : xQt) : S78 [.ref c, .int b] m Q = ((isC c) ∧ (m.1 c 5 ≤ 12) ∧ Q (some (.int (fd (fun h => if m.1 (c + 9) h = b ∧ m.1 (c + 12) h = 0 then m.1 (c + 10) h else 0) (ix (m.1 c 5))))) (m)) := rfl
theorem t78 {G : xG} : ∀ as m Q, S78 as m Q → Tri G 78 as m Q := by
  intro as m Q h
  match as, h with
  | [.ref c, .int b], h =>
    obtain ⟨hc, hn, h⟩ := h
    refine tri_vc (ls := [.ref c, .int b, .null, .null]) (by decide +kernel) rfl (Nat.le_of_ble_eq_true rfl) ?_
    refine vc_seq (pc1 := 4) (ls1 := [.ref c, .int b, .int 0, .int 0]) (m1 := m) (vc_wp (T := TT []) TTn (fun p => p == 4) (rt0 := some .int) rfl c78 rfl ?_) ?_
    · simp only [i78, wp_iinc, wpE0, wpE1, wpE2, wpE3, wpE4, wpE5, wpJ, okS, lt4S, popR, litS, Int32.reduceLT, Int32.reduceLE, List.getElem?_cons_zero, List.getElem?_cons_succ, Bool.false_eq_true, ↓reduceIte, Nat.reduceMod, Nat.reduceDiv, Nat.reduceAdd, Nat.reduceSub, Nat.reduceMul, Nat.reduceLeDiff, Nat.reduceEqDiff, Nat.reduceBEq, Int.reduceToNat, Int.reduceAdd, Int32.reduceOfInt, Int64.reduceOfInt, Int32.reduceToNatClampNeg, Int32.reduceOfNat, Bool.or_self, Bool.or_false, Bool.false_or, Bool.true_or, Bool.or_true, true_and, and_true, false_and, and_false, List.set_cons_zero, List.set_cons_succ, List.take_succ_cons, List.take_zero, List.drop_succ_cons, List.drop_zero, List.reverse_cons, List.reverse_nil, List.nil_append, List.cons_append, List.length_cons, List.length_nil, Option.toList_some, Option.toList_none, not_true_eq_false, not_false_eq_true, forall_const, true_implies, false_implies, nrw, TTS, shC hc, and01, isCl, hc, hn, subS, true_and, and_true, true_or, or_false]
    refine vc_for (ix (m.1 c 5)) (fun i => [.ref c, .int b, .int (fd (fun h => if m.1 (c + 9) h = b ∧ m.1 (c + 12) h = 0 then m.1 (c + 10) h else 0) i), .int (nI i)]) (fun _ => m) (fun i hi => ?_) ?_
    · refine vc_wp (T := TT []) TTn (fun _ => false) (rt0 := some .int) rfl (ckl_drop 4 c78) rfl ?_
      have hi2 : ¬ (ix (m.1 c 5)) ≤ i := by omega
      have hi12 : i < 12 := by have := ix_max (k := 12) hn (by decide); omega
      have hi3 : vp_in (nI i) 12 := xin_nI hi12 (by omega)
      have hi4 : (nI i).toNatClampNeg = i := nI_clamp (by omega)
      simp only [List.drop, i78, wp_iinc, wpE0, wpE1, wpE2, wpE3, wpE4, wpE5, wpJ, okS, lt4S, popR, litS, Int32.reduceLT, Int32.reduceLE, List.getElem?_cons_zero, List.getElem?_cons_succ, Bool.false_eq_true, ↓reduceIte, Nat.reduceMod, Nat.reduceDiv, Nat.reduceAdd, Nat.reduceSub, Nat.reduceMul, Nat.reduceLeDiff, Nat.reduceEqDiff, Nat.reduceBEq, Int.reduceToNat, Int.reduceAdd, Int32.reduceOfInt, Int64.reduceOfInt, Int32.reduceToNatClampNeg, Int32.reduceOfNat, Bool.or_self, Bool.or_false, Bool.false_or, Bool.true_or, Bool.or_true, true_and, and_true, false_and, and_false, List.set_cons_zero, List.set_cons_succ, List.take_succ_cons, List.take_zero, List.drop_succ_cons, List.drop_zero, List.reverse_cons, List.reverse_nil, List.nil_append, List.cons_append, List.length_cons, List.length_nil, Option.toList_some, Option.toList_none, not_true_eq_false, not_false_eq_true, forall_const, true_implies, false_implies, nrw, TTS, shC hc, and01, isCl, hc, hn, subS, ix_le _ (show i < 2 ^ 31 by omega), hi2, hi3, hi4, not_true_eq_false, not_false_eq_true, and_true, true_and, and_false, false_and, and_self, or_true, true_or, or_false, false_or, ↓reduceIte, if_true, if_false, eq_self, nI_1, fd]
      repeat' (first | apply And.intro | intro _)
      all_goals (simp only [*, not_true_eq_false, not_false_eq_true, and_true, true_and, and_false, false_and, and_self, or_true, true_or, or_false, false_or, ↓reduceIte, if_true, if_false, eq_self, Int32.add_zero]; done)
    · refine vc_wp (T := TT []) TTn (fun _ => false) (rt0 := some .int) rfl (ckl_drop 4 c78) rfl ?_
      have hi2 : (ix (m.1 c 5)) ≤ (ix (m.1 c 5)) := Nat.le_refl _
      have hi12 : (ix (m.1 c 5)) < 2 ^ 31 := by have := ix_max (k := 12) hn (by decide); omega
      simp only [List.drop, i78, wp_iinc, wpE0, wpE1, wpE2, wpE3, wpE4, wpE5, wpJ, okS, lt4S, popR, litS, Int32.reduceLT, Int32.reduceLE, List.getElem?_cons_zero, List.getElem?_cons_succ, Bool.false_eq_true, ↓reduceIte, Nat.reduceMod, Nat.reduceDiv, Nat.reduceAdd, Nat.reduceSub, Nat.reduceMul, Nat.reduceLeDiff, Nat.reduceEqDiff, Nat.reduceBEq, Int.reduceToNat, Int.reduceAdd, Int32.reduceOfInt, Int64.reduceOfInt, Int32.reduceToNatClampNeg, Int32.reduceOfNat, Bool.or_self, Bool.or_false, Bool.false_or, Bool.true_or, Bool.or_true, true_and, and_true, false_and, and_false, List.set_cons_zero, List.set_cons_succ, List.take_succ_cons, List.take_zero, List.drop_succ_cons, List.drop_zero, List.reverse_cons, List.reverse_nil, List.nil_append, List.cons_append, List.length_cons, List.length_nil, Option.toList_some, Option.toList_none, not_true_eq_false, not_false_eq_true, forall_const, true_implies, false_implies, nrw, TTS, shC hc, and01, isCl, hc, hn, subS, ix_le _ hi12, hi2, not_true_eq_false, not_false_eq_true, and_true, true_and, and_false, false_and, and_self, or_true, true_or, or_false, false_or, ↓reduceIte, if_true, if_false, eq_self]
      exact h

def S51 (as : List Value) (m : xM) (Q : xQt) : Prop := match as with
  | [.ref c, .int b] => (isC c) ∧ (m.1 c 5 ≤ 12) ∧ Q (some (.int (fd (fun h => if m.1 (c + 9) h = b then 1 else 0) (ix (m.1 c 5))))) (m)
  | _ => False
theorem s51 (c : Nat) (b : Int32) (m : xM) (Q : xQt) : S51 [.ref c, .int b] m Q = ((isC c) ∧ (m.1 c 5 ≤ 12) ∧ Q (some (.int (fd (fun h => if m.1 (c + 9) h = b then 1 else 0) (ix (m.1 c 5))))) (m)) := rfl
theorem t51 {G : xG} : ∀ as m Q, S51 as m Q → Tri G 51 as m Q := by
  intro as m Q h
  match as, h with
  | [.ref c, .int b], h =>
    obtain ⟨hc, hn, h⟩ := h
    refine tri_vc (ls := [.ref c, .int b, .null, .null]) (by decide +kernel) rfl (Nat.le_of_ble_eq_true rfl) ?_
    refine vc_seq (pc1 := 4) (ls1 := [.ref c, .int b, .int 0, .int 0]) (m1 := m) (vc_wp (T := TT []) TTn (fun p => p == 4) (rt0 := some .int) rfl c51 rfl ?_) ?_
    · simp only [i51, wp_iinc, wpE0, wpE1, wpE2, wpE3, wpE4, wpE5, wpJ, okS, lt4S, popR, litS, Int32.reduceLT, Int32.reduceLE, List.getElem?_cons_zero, List.getElem?_cons_succ, Bool.false_eq_true, ↓reduceIte, Nat.reduceMod, Nat.reduceDiv, Nat.reduceAdd, Nat.reduceSub, Nat.reduceMul, Nat.reduceLeDiff, Nat.reduceEqDiff, Nat.reduceBEq, Int.reduceToNat, Int.reduceAdd, Int32.reduceOfInt, Int64.reduceOfInt, Int32.reduceToNatClampNeg, Int32.reduceOfNat, Bool.or_self, Bool.or_false, Bool.false_or, Bool.true_or, Bool.or_true, true_and, and_true, false_and, and_false, List.set_cons_zero, List.set_cons_succ, List.take_succ_cons, List.take_zero, List.drop_succ_cons, List.drop_zero, List.reverse_cons, List.reverse_nil, List.nil_append, List.cons_append, List.length_cons, List.length_nil, Option.toList_some, Option.toList_none, not_true_eq_false, not_false_eq_true, forall_const, true_implies, false_implies, nrw, TTS, shC hc, and01, isCl, hc, hn, subS, true_and, and_true, true_or, or_false]
    refine vc_for (ix (m.1 c 5)) (fun i => [.ref c, .int b, .int (fd (fun h => if m.1 (c + 9) h = b then 1 else 0) i), .int (nI i)]) (fun _ => m) (fun i hi => ?_) ?_
    · refine vc_wp (T := TT []) TTn (fun _ => false) (rt0 := some .int) rfl (ckl_drop 4 c51) rfl ?_
      have hi2 : ¬ (ix (m.1 c 5)) ≤ i := by omega
      have hi12 : i < 12 := by have := ix_max (k := 12) hn (by decide); omega
      have hi3 : vp_in (nI i) 12 := xin_nI hi12 (by omega)
      have hi4 : (nI i).toNatClampNeg = i := nI_clamp (by omega)
      simp only [List.drop, i51, wp_iinc, wpE0, wpE1, wpE2, wpE3, wpE4, wpE5, wpJ, okS, lt4S, popR, litS, Int32.reduceLT, Int32.reduceLE, List.getElem?_cons_zero, List.getElem?_cons_succ, Bool.false_eq_true, ↓reduceIte, Nat.reduceMod, Nat.reduceDiv, Nat.reduceAdd, Nat.reduceSub, Nat.reduceMul, Nat.reduceLeDiff, Nat.reduceEqDiff, Nat.reduceBEq, Int.reduceToNat, Int.reduceAdd, Int32.reduceOfInt, Int64.reduceOfInt, Int32.reduceToNatClampNeg, Int32.reduceOfNat, Bool.or_self, Bool.or_false, Bool.false_or, Bool.true_or, Bool.or_true, true_and, and_true, false_and, and_false, List.set_cons_zero, List.set_cons_succ, List.take_succ_cons, List.take_zero, List.drop_succ_cons, List.drop_zero, List.reverse_cons, List.reverse_nil, List.nil_append, List.cons_append, List.length_cons, List.length_nil, Option.toList_some, Option.toList_none, not_true_eq_false, not_false_eq_true, forall_const, true_implies, false_implies, nrw, TTS, shC hc, and01, isCl, hc, hn, subS, ix_le _ (show i < 2 ^ 31 by omega), hi2, hi3, hi4, not_true_eq_false, not_false_eq_true, and_true, true_and, and_false, false_and, and_self, or_true, true_or, or_false, false_or, ↓reduceIte, if_true, if_false, eq_self, nI_1, fd]
      repeat' (first | apply And.intro | intro _)
      all_goals (simp only [*, not_true_eq_false, not_false_eq_true, and_true, true_and, and_false, false_and, and_self, or_true, true_or, or_false, false_or, ↓reduceIte, if_true, if_false, eq_self, Int32.add_zero]; done)
    · refine vc_wp (T := TT []) TTn (fun _ => false) (rt0 := some .int) rfl (ckl_drop 4 c51) rfl ?_
      have hi2 : (ix (m.1 c 5)) ≤ (ix (m.1 c 5)) := Nat.le_refl _
      have hi12 : (ix (m.1 c 5)) < 2 ^ 31 := by have := ix_max (k := 12) hn (by decide); omega
      simp only [List.drop, i51, wp_iinc, wpE0, wpE1, wpE2, wpE3, wpE4, wpE5, wpJ, okS, lt4S, popR, litS, Int32.reduceLT, Int32.reduceLE, List.getElem?_cons_zero, List.getElem?_cons_succ, Bool.false_eq_true, ↓reduceIte, Nat.reduceMod, Nat.reduceDiv, Nat.reduceAdd, Nat.reduceSub, Nat.reduceMul, Nat.reduceLeDiff, Nat.reduceEqDiff, Nat.reduceBEq, Int.reduceToNat, Int.reduceAdd, Int32.reduceOfInt, Int64.reduceOfInt, Int32.reduceToNatClampNeg, Int32.reduceOfNat, Bool.or_self, Bool.or_false, Bool.false_or, Bool.true_or, Bool.or_true, true_and, and_true, false_and, and_false, List.set_cons_zero, List.set_cons_succ, List.take_succ_cons, List.take_zero, List.drop_succ_cons, List.drop_zero, List.reverse_cons, List.reverse_nil, List.nil_append, List.cons_append, List.length_cons, List.length_nil, Option.toList_some, Option.toList_none, not_true_eq_false, not_false_eq_true, forall_const, true_implies, false_implies, nrw, TTS, shC hc, and01, isCl, hc, hn, subS, ix_le _ hi12, hi2, not_true_eq_false, not_false_eq_true, and_true, true_and, and_false, false_and, and_self, or_true, true_or, or_false, false_or, ↓reduceIte, if_true, if_false, eq_self]
      exact h

def S68 (as : List Value) (m : xM) (Q : xQt) : Prop := match as with
  | [.ref c, .int b, .int p] => (isC c) ∧ (m.1 c 5 ≤ 12) ∧ Q (some (.int (fd (fun h => if m.1 (c + 9) h = b ∧ m.1 (c + 12) h = p ∧ ¬ m.1 (c + 13) h ≤ 0 then 1 else 0) (ix (m.1 c 5))))) (m)
  | _ => False
theorem s68 (c : Nat) (b : Int32) (p : Int32) (m : xM) (Q : xQt) : S68 [.ref c, .int b, .int p] m Q = ((isC c) ∧ (m.1 c 5 ≤ 12) ∧ Q (some (.int (fd (fun h => if m.1 (c + 9) h = b ∧ m.1 (c + 12) h = p ∧ ¬ m.1 (c + 13) h ≤ 0 then 1 else 0) (ix (m.1 c 5))))) (m)) := rfl
theorem t68 {G : xG} : ∀ as m Q, S68 as m Q → Tri G 68 as m Q := by
  intro as m Q h
  match as, h with
  | [.ref c, .int b, .int p], h =>
    obtain ⟨hc, hn, h⟩ := h
    refine tri_vc (ls := [.ref c, .int b, .int p, .null, .null]) (by decide +kernel) rfl (Nat.le_of_ble_eq_true rfl) ?_
    refine vc_seq (pc1 := 5) (ls1 := [.ref c, .int b, .int p, .int 0, .int 0]) (m1 := m) (vc_wp (T := TT []) TTn (fun p => p == 5) (rt0 := some .int) rfl c68 rfl ?_) ?_
    · simp only [i68, wp_iinc, wpE0, wpE1, wpE2, wpE3, wpE4, wpE5, wpJ, okS, lt4S, popR, litS, Int32.reduceLT, Int32.reduceLE, List.getElem?_cons_zero, List.getElem?_cons_succ, Bool.false_eq_true, ↓reduceIte, Nat.reduceMod, Nat.reduceDiv, Nat.reduceAdd, Nat.reduceSub, Nat.reduceMul, Nat.reduceLeDiff, Nat.reduceEqDiff, Nat.reduceBEq, Int.reduceToNat, Int.reduceAdd, Int32.reduceOfInt, Int64.reduceOfInt, Int32.reduceToNatClampNeg, Int32.reduceOfNat, Bool.or_self, Bool.or_false, Bool.false_or, Bool.true_or, Bool.or_true, true_and, and_true, false_and, and_false, List.set_cons_zero, List.set_cons_succ, List.take_succ_cons, List.take_zero, List.drop_succ_cons, List.drop_zero, List.reverse_cons, List.reverse_nil, List.nil_append, List.cons_append, List.length_cons, List.length_nil, Option.toList_some, Option.toList_none, not_true_eq_false, not_false_eq_true, forall_const, true_implies, false_implies, nrw, TTS, shC hc, and01, isCl, hc, hn, subS, true_and, and_true, true_or, or_false]
    refine vc_for (ix (m.1 c 5)) (fun i => [.ref c, .int b, .int p, .int (fd (fun h => if m.1 (c + 9) h = b ∧ m.1 (c + 12) h = p ∧ ¬ m.1 (c + 13) h ≤ 0 then 1 else 0) i), .int (nI i)]) (fun _ => m) (fun i hi => ?_) ?_
    · refine vc_wp (T := TT []) TTn (fun _ => false) (rt0 := some .int) rfl (ckl_drop 4 c68) rfl ?_
      have hi2 : ¬ (ix (m.1 c 5)) ≤ i := by omega
      have hi12 : i < 12 := by have := ix_max (k := 12) hn (by decide); omega
      have hi3 : vp_in (nI i) 12 := xin_nI hi12 (by omega)
      have hi4 : (nI i).toNatClampNeg = i := nI_clamp (by omega)
      simp only [List.drop, i68, wp_iinc, wpE0, wpE1, wpE2, wpE3, wpE4, wpE5, wpJ, okS, lt4S, popR, litS, Int32.reduceLT, Int32.reduceLE, List.getElem?_cons_zero, List.getElem?_cons_succ, Bool.false_eq_true, ↓reduceIte, Nat.reduceMod, Nat.reduceDiv, Nat.reduceAdd, Nat.reduceSub, Nat.reduceMul, Nat.reduceLeDiff, Nat.reduceEqDiff, Nat.reduceBEq, Int.reduceToNat, Int.reduceAdd, Int32.reduceOfInt, Int64.reduceOfInt, Int32.reduceToNatClampNeg, Int32.reduceOfNat, Bool.or_self, Bool.or_false, Bool.false_or, Bool.true_or, Bool.or_true, true_and, and_true, false_and, and_false, List.set_cons_zero, List.set_cons_succ, List.take_succ_cons, List.take_zero, List.drop_succ_cons, List.drop_zero, List.reverse_cons, List.reverse_nil, List.nil_append, List.cons_append, List.length_cons, List.length_nil, Option.toList_some, Option.toList_none, not_true_eq_false, not_false_eq_true, forall_const, true_implies, false_implies, nrw, TTS, shC hc, and01, isCl, hc, hn, subS, ix_le _ (show i < 2 ^ 31 by omega), hi2, hi3, hi4, not_true_eq_false, not_false_eq_true, and_true, true_and, and_false, false_and, and_self, or_true, true_or, or_false, false_or, ↓reduceIte, if_true, if_false, eq_self, nI_1, fd]
      repeat' (first | apply And.intro | intro _)
      all_goals (simp only [*, not_true_eq_false, not_false_eq_true, and_true, true_and, and_false, false_and, and_self, or_true, true_or, or_false, false_or, ↓reduceIte, if_true, if_false, eq_self, Int32.add_zero]; done)
    · refine vc_wp (T := TT []) TTn (fun _ => false) (rt0 := some .int) rfl (ckl_drop 4 c68) rfl ?_
      have hi2 : (ix (m.1 c 5)) ≤ (ix (m.1 c 5)) := Nat.le_refl _
      have hi12 : (ix (m.1 c 5)) < 2 ^ 31 := by have := ix_max (k := 12) hn (by decide); omega
      simp only [List.drop, i68, wp_iinc, wpE0, wpE1, wpE2, wpE3, wpE4, wpE5, wpJ, okS, lt4S, popR, litS, Int32.reduceLT, Int32.reduceLE, List.getElem?_cons_zero, List.getElem?_cons_succ, Bool.false_eq_true, ↓reduceIte, Nat.reduceMod, Nat.reduceDiv, Nat.reduceAdd, Nat.reduceSub, Nat.reduceMul, Nat.reduceLeDiff, Nat.reduceEqDiff, Nat.reduceBEq, Int.reduceToNat, Int.reduceAdd, Int32.reduceOfInt, Int64.reduceOfInt, Int32.reduceToNatClampNeg, Int32.reduceOfNat, Bool.or_self, Bool.or_false, Bool.false_or, Bool.true_or, Bool.or_true, true_and, and_true, false_and, and_false, List.set_cons_zero, List.set_cons_succ, List.take_succ_cons, List.take_zero, List.drop_succ_cons, List.drop_zero, List.reverse_cons, List.reverse_nil, List.nil_append, List.cons_append, List.length_cons, List.length_nil, Option.toList_some, Option.toList_none, not_true_eq_false, not_false_eq_true, forall_const, true_implies, false_implies, nrw, TTS, shC hc, and01, isCl, hc, hn, subS, ix_le _ hi12, hi2, not_true_eq_false, not_false_eq_true, and_true, true_and, and_false, false_and, and_self, or_true, true_or, or_false, false_or, ↓reduceIte, if_true, if_false, eq_self]
      exact h

def S71 (as : List Value) (m : xM) (Q : xQt) : Prop := match as with
  | [.ref c, .int b] => (isC c) ∧ (m.1 c 5 ≤ 12) ∧ Q (some (.int (fd (fun h => if m.1 (c + 9) h = b ∧ m.1 (c + 12) h = 2 ∧ ¬ m.1 (c + 13) h ≤ 0 then m.1 (c + 10) h else 0) (ix (m.1 c 5))))) (m)
  | _ => False
theorem s71 (c : Nat) (b : Int32) (m : xM) (Q : xQt) : S71 [.ref c, .int b] m Q = ((isC c) ∧ (m.1 c 5 ≤ 12) ∧ Q (some (.int (fd (fun h => if m.1 (c + 9) h = b ∧ m.1 (c + 12) h = 2 ∧ ¬ m.1 (c + 13) h ≤ 0 then m.1 (c + 10) h else 0) (ix (m.1 c 5))))) (m)) := rfl
theorem t71 {G : xG} : ∀ as m Q, S71 as m Q → Tri G 71 as m Q := by
  intro as m Q h
  match as, h with
  | [.ref c, .int b], h =>
    obtain ⟨hc, hn, h⟩ := h
    refine tri_vc (ls := [.ref c, .int b, .null, .null]) (by decide +kernel) rfl (Nat.le_of_ble_eq_true rfl) ?_
    refine vc_seq (pc1 := 4) (ls1 := [.ref c, .int b, .int 0, .int 0]) (m1 := m) (vc_wp (T := TT []) TTn (fun p => p == 4) (rt0 := some .int) rfl c71 rfl ?_) ?_
    · simp only [i71, wp_iinc, wpE0, wpE1, wpE2, wpE3, wpE4, wpE5, wpJ, okS, lt4S, popR, litS, Int32.reduceLT, Int32.reduceLE, List.getElem?_cons_zero, List.getElem?_cons_succ, Bool.false_eq_true, ↓reduceIte, Nat.reduceMod, Nat.reduceDiv, Nat.reduceAdd, Nat.reduceSub, Nat.reduceMul, Nat.reduceLeDiff, Nat.reduceEqDiff, Nat.reduceBEq, Int.reduceToNat, Int.reduceAdd, Int32.reduceOfInt, Int64.reduceOfInt, Int32.reduceToNatClampNeg, Int32.reduceOfNat, Bool.or_self, Bool.or_false, Bool.false_or, Bool.true_or, Bool.or_true, true_and, and_true, false_and, and_false, List.set_cons_zero, List.set_cons_succ, List.take_succ_cons, List.take_zero, List.drop_succ_cons, List.drop_zero, List.reverse_cons, List.reverse_nil, List.nil_append, List.cons_append, List.length_cons, List.length_nil, Option.toList_some, Option.toList_none, not_true_eq_false, not_false_eq_true, forall_const, true_implies, false_implies, nrw, TTS, shC hc, and01, isCl, hc, hn, subS, true_and, and_true, true_or, or_false]
    refine vc_for (ix (m.1 c 5)) (fun i => [.ref c, .int b, .int (fd (fun h => if m.1 (c + 9) h = b ∧ m.1 (c + 12) h = 2 ∧ ¬ m.1 (c + 13) h ≤ 0 then m.1 (c + 10) h else 0) i), .int (nI i)]) (fun _ => m) (fun i hi => ?_) ?_
    · refine vc_wp (T := TT []) TTn (fun _ => false) (rt0 := some .int) rfl (ckl_drop 4 c71) rfl ?_
      have hi2 : ¬ (ix (m.1 c 5)) ≤ i := by omega
      have hi12 : i < 12 := by have := ix_max (k := 12) hn (by decide); omega
      have hi3 : vp_in (nI i) 12 := xin_nI hi12 (by omega)
      have hi4 : (nI i).toNatClampNeg = i := nI_clamp (by omega)
      simp only [List.drop, i71, wp_iinc, wpE0, wpE1, wpE2, wpE3, wpE4, wpE5, wpJ, okS, lt4S, popR, litS, Int32.reduceLT, Int32.reduceLE, List.getElem?_cons_zero, List.getElem?_cons_succ, Bool.false_eq_true, ↓reduceIte, Nat.reduceMod, Nat.reduceDiv, Nat.reduceAdd, Nat.reduceSub, Nat.reduceMul, Nat.reduceLeDiff, Nat.reduceEqDiff, Nat.reduceBEq, Int.reduceToNat, Int.reduceAdd, Int32.reduceOfInt, Int64.reduceOfInt, Int32.reduceToNatClampNeg, Int32.reduceOfNat, Bool.or_self, Bool.or_false, Bool.false_or, Bool.true_or, Bool.or_true, true_and, and_true, false_and, and_false, List.set_cons_zero, List.set_cons_succ, List.take_succ_cons, List.take_zero, List.drop_succ_cons, List.drop_zero, List.reverse_cons, List.reverse_nil, List.nil_append, List.cons_append, List.length_cons, List.length_nil, Option.toList_some, Option.toList_none, not_true_eq_false, not_false_eq_true, forall_const, true_implies, false_implies, nrw, TTS, shC hc, and01, isCl, hc, hn, subS, ix_le _ (show i < 2 ^ 31 by omega), hi2, hi3, hi4, not_true_eq_false, not_false_eq_true, and_true, true_and, and_false, false_and, and_self, or_true, true_or, or_false, false_or, ↓reduceIte, if_true, if_false, eq_self, nI_1, fd]
      repeat' (first | apply And.intro | intro _)
      all_goals (simp only [*, not_true_eq_false, not_false_eq_true, and_true, true_and, and_false, false_and, and_self, or_true, true_or, or_false, false_or, ↓reduceIte, if_true, if_false, eq_self, Int32.add_zero]; done)
    · refine vc_wp (T := TT []) TTn (fun _ => false) (rt0 := some .int) rfl (ckl_drop 4 c71) rfl ?_
      have hi2 : (ix (m.1 c 5)) ≤ (ix (m.1 c 5)) := Nat.le_refl _
      have hi12 : (ix (m.1 c 5)) < 2 ^ 31 := by have := ix_max (k := 12) hn (by decide); omega
      simp only [List.drop, i71, wp_iinc, wpE0, wpE1, wpE2, wpE3, wpE4, wpE5, wpJ, okS, lt4S, popR, litS, Int32.reduceLT, Int32.reduceLE, List.getElem?_cons_zero, List.getElem?_cons_succ, Bool.false_eq_true, ↓reduceIte, Nat.reduceMod, Nat.reduceDiv, Nat.reduceAdd, Nat.reduceSub, Nat.reduceMul, Nat.reduceLeDiff, Nat.reduceEqDiff, Nat.reduceBEq, Int.reduceToNat, Int.reduceAdd, Int32.reduceOfInt, Int64.reduceOfInt, Int32.reduceToNatClampNeg, Int32.reduceOfNat, Bool.or_self, Bool.or_false, Bool.false_or, Bool.true_or, Bool.or_true, true_and, and_true, false_and, and_false, List.set_cons_zero, List.set_cons_succ, List.take_succ_cons, List.take_zero, List.drop_succ_cons, List.drop_zero, List.reverse_cons, List.reverse_nil, List.nil_append, List.cons_append, List.length_cons, List.length_nil, Option.toList_some, Option.toList_none, not_true_eq_false, not_false_eq_true, forall_const, true_implies, false_implies, nrw, TTS, shC hc, and01, isCl, hc, hn, subS, ix_le _ hi12, hi2, not_true_eq_false, not_false_eq_true, and_true, true_and, and_false, false_and, and_self, or_true, true_or, or_false, false_or, ↓reduceIte, if_true, if_false, eq_self]
      exact h
end
section
abbrev X6 : Type := (Nat → Int32) × (Nat → Int32) × (Nat → Int32) × (Nat → Int32) × (Nat → Int32) × (Nat → Int32)
abbrev KK : Type := Int32 × Int32 × Int32 × Int32 × Int32 × (Nat → Int32) × (Nat → Int32) × (Nat → Int32) × (Nat → Int32) × (Nat → Int32) × (Nat → Int32) × (Nat → Int32)
abbrev kWa (k : KK) : Int32 := k.1
abbrev kWi (k : KK) : Int32 := k.2.1
abbrev kMu (k : KK) : Int32 := k.2.2.1
abbrev kNb (k : KK) : Int32 := k.2.2.2.1
abbrev kNh (k : KK) : Int32 := k.2.2.2.2.1
abbrev kBe (k : KK) : Nat → Int32 := k.2.2.2.2.2.1
abbrev kSa (k : KK) : Nat → Int32 := k.2.2.2.2.2.2.1
abbrev kAi (k : KK) : Nat → Int32 := k.2.2.2.2.2.2.2.1
abbrev kFl (k : KK) : Nat → Int32 := k.2.2.2.2.2.2.2.2.1
abbrev kBo (k : KK) : Nat → Int32 := k.2.2.2.2.2.2.2.2.2.1
abbrev kWe (k : KK) : Nat → Int32 := k.2.2.2.2.2.2.2.2.2.2.1
abbrev kLa (k : KK) : Nat → Int32 := k.2.2.2.2.2.2.2.2.2.2.2
abbrev xHo (X : X6) : Nat → Int32 := X.1
abbrev xMa (X : X6) : Nat → Int32 := X.2.1
abbrev xWa (X : X6) : Nat → Int32 := X.2.2.1
abbrev xSi (X : X6) : Nat → Int32 := X.2.2.2.1
abbrev xSp (X : X6) : Nat → Int32 := X.2.2.2.2.1
abbrev xGr (X : X6) : Nat → Int32 := X.2.2.2.2.2
def kk (m : xM) (c : Nat) : KK := (m.1 c 0, m.1 c 1, m.1 c 2, m.1 c 4, m.1 c 5, m.1 (c + 1), m.1 (c + 2), m.1 (c + 3), m.1 (c + 4), m.1 (c + 9), m.1 (c + 10), m.1 (c + 11))
def g6 (m : xM) (c : Nat) : X6 := (m.1 (c + 5), m.1 (c + 6), m.1 (c + 7), m.1 (c + 8), m.1 (c + 12), m.1 (c + 13))
def s6 (m : xM) (c : Nat) (X : X6) : xM := (fun q => if q = c + 5 then X.1 else if q = c + 6 then X.2.1 else if q = c + 7 then X.2.2.1 else if q = c + 8 then X.2.2.2.1 else if q = c + 12 then X.2.2.2.2.1 else if q = c + 13 then X.2.2.2.2.2 else m.1 q, m.2)
theorem s6_eq {m m' : xM} {c : Nat} {X : X6} (h5 : m'.1 (c + 5) = X.1) (h6 : m'.1 (c + 6) = X.2.1) (h7 : m'.1 (c + 7) = X.2.2.1) (h8 : m'.1 (c + 8) = X.2.2.2.1) (h12 : m'.1 (c + 12) = X.2.2.2.2.1) (h13 : m'.1 (c + 13) = X.2.2.2.2.2) (ho : ∀ q, q ≠ c + 5 → q ≠ c + 6 → q ≠ c + 7 → q ≠ c + 8 → q ≠ c + 12 → q ≠ c + 13 → m'.1 q = m.1 q) (h2 : m'.2 = m.2) : m' = s6 m c X := by
  refine Prod.ext (funext fun q => ?_) h2
  show m'.1 q = if q = c + 5 then X.1 else if q = c + 6 then X.2.1 else if q = c + 7 then X.2.2.1 else if q = c + 8 then X.2.2.2.1 else if q = c + 12 then X.2.2.2.2.1 else if q = c + 13 then X.2.2.2.2.2 else m.1 q
  by_cases e5 : q = c + 5
  · rw [if_pos e5, e5, h5]
  · rw [if_neg e5]
    by_cases e6 : q = c + 6
    · rw [if_pos e6, e6, h6]
    · rw [if_neg e6]
      by_cases e7 : q = c + 7
      · rw [if_pos e7, e7, h7]
      · rw [if_neg e7]
        by_cases e8 : q = c + 8
        · rw [if_pos e8, e8, h8]
        · rw [if_neg e8]
          by_cases e12 : q = c + 12
          · rw [if_pos e12, e12, h12]
          · rw [if_neg e12]
            by_cases e13 : q = c + 13
            · rw [if_pos e13, e13, h13]
            · rw [if_neg e13]
              exact ho q e5 e6 e7 e8 e12 e13
theorem s6S (m : xM) (c : Nat) (X : X6) : (s6 m c X).1 (c + 5) = X.1 ∧ (s6 m c X).1 (c + 6) = X.2.1 ∧ (s6 m c X).1 (c + 7) = X.2.2.1 ∧ (s6 m c X).1 (c + 8) = X.2.2.2.1 ∧ (s6 m c X).1 (c + 12) = X.2.2.2.2.1 ∧ (s6 m c X).1 (c + 13) = X.2.2.2.2.2 ∧ (s6 m c X).1 c = m.1 c ∧ (s6 m c X).1 (c + 1) = m.1 (c + 1) ∧ (s6 m c X).1 (c + 2) = m.1 (c + 2) ∧ (s6 m c X).1 (c + 3) = m.1 (c + 3) ∧ (s6 m c X).1 (c + 4) = m.1 (c + 4) ∧ (s6 m c X).1 (c + 9) = m.1 (c + 9) ∧ (s6 m c X).1 (c + 10) = m.1 (c + 10) ∧ (s6 m c X).1 (c + 11) = m.1 (c + 11) ∧ (s6 m c X).2 = m.2 := by
  refine ⟨?_, ?_, ?_, ?_, ?_, ?_, ?_, ?_, ?_, ?_, ?_, ?_, ?_, ?_, rfl⟩ <;> simp [s6]
theorem s6_o {m : xM} {c q : Nat} {X : X6} (h : q < c ∨ c + 14 ≤ q) : (s6 m c X).1 q = m.1 q := by
  unfold s6
  simp only
  repeat rw [if_neg (by omega)]
theorem s6_s6 (m : xM) (c : Nat) (X Y : X6) : s6 (s6 m c X) c Y = s6 m c Y := by
  obtain ⟨h1, h2, h3, h4, h5, h6, -⟩ := s6S (s6 m c X) c Y
  refine s6_eq h1 h2 h3 h4 h5 h6 (fun q e5 e6 e7 e8 e12 e13 => ?_) rfl
  simp only [s6, if_neg e5, if_neg e6, if_neg e7, if_neg e8, if_neg e12, if_neg e13]
theorem kk_s6 (m : xM) (c : Nat) (X : X6) : kk (s6 m c X) c = kk m c := by simp only [kk, s6S]
theorem kk_xa (m : xM) (c : Nat) (f : Nat → Int32) : kk (xa m (c + 5) f) c = kk m c ∧ kk (xa m (c + 6) f) c = kk m c ∧ kk (xa m (c + 7) f) c = kk m c ∧ kk (xa m (c + 8) f) c = kk m c ∧ kk (xa m (c + 12) f) c = kk m c ∧ kk (xa m (c + 13) f) c = kk m c := by
  refine ⟨?_, ?_, ?_, ?_, ?_, ?_⟩ <;> simp [kk, xa_1]
theorem kk_xb (m : xM) (c d : Nat) (f : Nat → Int64) : kk (xb m d f) c = kk m c := rfl
theorem g6_xb (m : xM) (c d : Nat) (f : Nat → Int64) : g6 (xb m d f) c = g6 m c := rfl
theorem g6_s6 (m : xM) (c : Nat) (X : X6) : g6 (s6 m c X) c = X := by simp only [g6, s6S]
theorem s6_g6 (m : xM) (c : Nat) : s6 m c (g6 m c) = m := (s6_eq rfl rfl rfl rfl rfl rfl (fun _ _ _ _ _ _ _ => rfl) rfl).symm
theorem q_eq {Q : xQt} {r : Option Value} {m1 m2 : xM} (h : Q r m1) (e : m2 = m1) : Q r m2 := e ▸ h
/-- the first i places replaced -/
def mapF (f g : Nat → Int32) (i : Nat) : Nat → Int32 := fun h => if h < i then g h else f h
theorem mapF_0 (f g : Nat → Int32) : mapF f g 0 = f := by funext h; simp [mapF]
theorem mapF_at (f g : Nat → Int32) (i : Nat) : mapF f g i i = f i := by simp [mapF]
theorem mapF_s (f g : Nat → Int32) (i : Nat) (x : Int32) (e : g i = x) : upd (mapF f g i) i x = mapF f g (i + 1) := by
  funext h
  simp only [upd, mapF]
  by_cases e1 : h = i
  · subst e1; simp [e]
  · rw [if_neg e1]
    by_cases e2 : h < i
    · rw [if_pos e2, if_pos (by omega)]
    · rw [if_neg e2, if_neg (by omega)]
theorem mapF_k (f g : Nat → Int32) (i : Nat) (e : g i = f i) : mapF f g i = mapF f g (i + 1) := by
  funext h
  simp only [mapF]
  by_cases e1 : h = i
  · subst e1; simp [e]
  · by_cases e2 : h < i
    · rw [if_pos e2, if_pos (by omega)]
    · rw [if_neg e2, if_neg (by omega)]
def aAble (k : KK) (X : X6) (b p : Int32) : Int32 := fd (fun h => if kBo k h = b ∧ xSp X h = p ∧ ¬ xGr X h ≤ 0 then 1 else 0) (ix (kNh k))
def aBoard (k : KK) (X : X6) (b : Int32) : Int32 := fd (fun h => if kBo k h = b ∧ xSp X h = 2 ∧ ¬ xGr X h ≤ 0 then kWe k h else 0) (ix (kNh k))
def aIn (k : KK) (X : X6) (b : Int32) : Int32 := fd (fun h => if kBo k h = b ∧ xSp X h = 0 then kWe k h else 0) (ix (kNh k))
def aNeed (k : KK) (X : X6) (b : Int32) : Int32 := 10 * kSa k (ix b) + xMa X (ix b) + (if aAble k X b 3 ≤ 0 then 2 * kWi k else 0)
def aLever (k : KK) (X : X6) (b : Int32) : Int32 := aBoard k X b * kBe k (ix b) / 10
def aSend (k : KK) (X : X6) (b f t : Int32) : X6 := (X.1, X.2.1, X.2.2.1, X.2.2.2.1, mapF (xSp X) (fun h => if kBo k h = b ∧ xSp X h = f then t else xSp X h) (ix (kNh k)), X.2.2.2.2.2)
def aCap (k : KK) (X : X6) (b : Int32) : X6 := aSend k (upd X.1 (ix b) 1, upd X.2.1 (ix b) 0, upd X.2.2.1 (ix b) 0, upd X.2.2.2.1 (ix b) (X.2.2.2.1 (ix b) + 1), X.2.2.2.2.1, X.2.2.2.2.2) b 0 1
def aFillM (k : KK) (X : X6) (b : Int32) : Int32 := if xMa X (ix b) + 20 - kFl k (ix b) < 100 then xMa X (ix b) + 20 - kFl k (ix b) else 100
def aFill (k : KK) (X : X6) (b : Int32) : X6 := (if aFillM k X b = 100 then upd X.1 (ix b) (if kMu k = 0 then 2 else 3) else X.1, upd X.2.1 (ix b) (aFillM k X b), X.2.2)
def aDraw (x : Int64) : Int64 := x * 16807 - x * 16807 / 2147483647 * 2147483647
def aUp1 (k : KK) (X : X6) (b : Int32) : X6 := aSend k (upd X.1 (ix b) 4, upd X.2.1 (ix b) 0, upd X.2.2.1 (ix b) (70 - 6 * kAi k (ix b)), X.2.2.2.1, X.2.2.2.2.1, X.2.2.2.2.2) b 2 0
def aUp (k : KK) (X : X6) (b s : Int32) (x : Int64) : X6 × Int64 := if s = 0 then (if aAble k (aUp1 k X b) b 3 = 0 then (if (2 * kWi k).toInt64 ≤ aDraw x - aDraw x / 100 * 100 then (aUp1 k X b, aDraw x) else (aCap k (aUp1 k X b) b, aDraw x)) else (aUp1 k X b, x)) else (aUp1 k X b, x)
def aBailW (k : KK) (X : X6) (b : Int32) : Int32 := if 0 < xWa X (ix b) - 5 * aAble k X b 0 - kAi k (ix b) then xWa X (ix b) - 5 * aAble k X b 0 - kAi k (ix b) else 0
def aBail (k : KK) (X : X6) (b : Int32) : X6 := if xHo X (ix b) = 4 then (upd X.1 (ix b) (if aBailW k X b = 0 then 0 else 4), X.2.1, upd X.2.2.1 (ix b) (aBailW k X b), X.2.2.2) else X
def aRide (k : KK) (X : X6) (b s : Int32) (x : Int64) : X6 × Int64 := if s = 0 then (if ((kWi k).toInt64 + (aDraw x - aDraw x / 10 * 10)) * (kSa k (ix b)).toInt64 ≤ (aIn k X b + 5 * kBe k (ix b) - xWa X (ix b)).toInt64 then (aBail k X b, aDraw x) else (aCap k X b, aDraw x)) else (aBail k X b, x)
def aCold (k : KK) (h : Nat) : Int32 := if 1 ≤ 6 * kLa k h then (if 10 ≤ kWa k then 1000 / (6 * kLa k h) else 1000 / (6 * kLa k h) + 1000 / (6 * kLa k h) / 2) else 0
def aChill (k : KK) (X : X6) (b : Int32) : X6 := (X.1, X.2.1, X.2.2.1, X.2.2.2.1, X.2.2.2.2.1, mapF (xGr X) (fun h => if kBo k h = b ∧ (¬ xSp X h = 0 ∨ xHo X (ix b) = 4) then (if 0 < xGr X h - aCold k h then xGr X h - aCold k h else 0) else xGr X h) (ix (kNh k)))
def aT1 (k : KK) (X : X6) (b s : Int32) (x : Int64) : X6 × Int64 :=
  if xHo X (ix b) = 1 then (if aLever k X b < aNeed k X b then (aFill k X b, x) else aUp k X b s x)
  else if xHo X (ix b) = 2 then (if aLever k X b < 2 * aNeed k X b then (X, x) else ((upd X.1 (ix b) 1, upd X.2.1 (ix b) 50, X.2.2.1, upd X.2.2.2.1 (ix b) (X.2.2.2.1 (ix b) + 1), X.2.2.2.2), x))
  else if xHo X (ix b) = 3 then ((upd X.1 (ix b) (if aLever k X b < 3 * aNeed k X b then 3 else 2), X.2), x)
  else aRide k X b s x
def aTick (k : KK) (X : X6) (b s : Int32) (x : Int64) : X6 × Int64 := (aChill k (aT1 k X b s x).1 b, (aT1 k X b s x).2)

def S61 (as : List Value) (m : xM) (Q : xQt) : Prop := match as with
  | [.ref c, .int b, .int f, .int t] => (isC c) ∧ (m.1 c 5 ≤ 12) ∧ Q (none) (xa m (c + 12) (mapF (m.1 (c + 12)) (fun h => if m.1 (c + 9) h = b ∧ m.1 (c + 12) h = f then t else m.1 (c + 12) h) (ix (m.1 c 5))))
  | _ => False
theorem s61 (c : Nat) (b : Int32) (f : Int32) (t : Int32) (m : xM) (Q : xQt) : S61 [.ref c, .int b, .int f, .int t] m Q = ((isC c) ∧ (m.1 c 5 ≤ 12) ∧ Q (none) (xa m (c + 12) (mapF (m.1 (c + 12)) (fun h => if m.1 (c + 9) h = b ∧ m.1 (c + 12) h = f then t else m.1 (c + 12) h) (ix (m.1 c 5))))) := rfl
theorem t61 {G : xG} : ∀ as m Q, S61 as m Q → Tri G 61 as m Q := by
  intro as m Q h
  match as, h with
  | [.ref c, .int b, .int f, .int t], h =>
    obtain ⟨hc, hn, h⟩ := h
    refine tri_vc (ls := [.ref c, .int b, .int f, .int t, .null]) (by decide +kernel) rfl (Nat.le_of_ble_eq_true rfl) ?_
    refine vc_seq (pc1 := 3) (ls1 := [.ref c, .int b, .int f, .int t, .int 0]) (m1 := xa m (c + 12) (mapF (m.1 (c + 12)) (fun h => if m.1 (c + 9) h = b ∧ m.1 (c + 12) h = f then t else m.1 (c + 12) h) 0)) (vc_wp (T := TT []) TTn (fun p => p == 3) (rt0 := none) rfl c61 rfl ?_) ?_
    · simp only [i61, wp_iinc, wpE0, wpE1, wpE2, wpE3, wpE4, wpE5, wpJ, okS, lt4S, popR, litS, Int32.reduceLT, Int32.reduceLE, List.getElem?_cons_zero, List.getElem?_cons_succ, Bool.false_eq_true, ↓reduceIte, Nat.reduceMod, Nat.reduceDiv, Nat.reduceAdd, Nat.reduceSub, Nat.reduceMul, Nat.reduceLeDiff, Nat.reduceEqDiff, Nat.reduceBEq, Int.reduceToNat, Int.reduceAdd, Int32.reduceOfInt, Int64.reduceOfInt, Int32.reduceToNatClampNeg, Int32.reduceOfNat, Bool.or_self, Bool.or_false, Bool.false_or, Bool.true_or, Bool.or_true, true_and, and_true, false_and, and_false, List.set_cons_zero, List.set_cons_succ, List.take_succ_cons, List.take_zero, List.drop_succ_cons, List.drop_zero, List.reverse_cons, List.reverse_nil, List.nil_append, List.cons_append, List.length_cons, List.length_nil, Option.toList_some, Option.toList_none, not_true_eq_false, not_false_eq_true, forall_const, true_implies, false_implies, nrw, TTS, shC hc, and01, isCl, hc, hn, subS, true_and, and_true, or_false]
      rw [mapF_0, xa_id]
    refine vc_for (ix (m.1 c 5)) (fun i => [.ref c, .int b, .int f, .int t, .int (nI i)]) (fun i => xa m (c + 12) (mapF (m.1 (c + 12)) (fun h => if m.1 (c + 9) h = b ∧ m.1 (c + 12) h = f then t else m.1 (c + 12) h) i)) (fun i hi => ?_) ?_
    · refine vc_wp (T := TT []) TTn (fun _ => false) (rt0 := none) rfl (ckl_drop 2 c61) rfl ?_
      have hi2 : ¬ ix (m.1 c 5) ≤ i := by omega
      have hi12 : i < 12 := by have := ix_max (k := 12) hn (by decide); omega
      have hi3 : vp_in (nI i) 12 := xin_nI hi12 (by omega)
      have hi4 : (nI i).toNatClampNeg = i := nI_clamp (by omega)
      simp only [List.drop, i61, wp_iinc, wpE0, wpE1, wpE2, wpE3, wpE4, wpE5, wpJ, okS, lt4S, popR, litS, Int32.reduceLT, Int32.reduceLE, List.getElem?_cons_zero, List.getElem?_cons_succ, Bool.false_eq_true, ↓reduceIte, Nat.reduceMod, Nat.reduceDiv, Nat.reduceAdd, Nat.reduceSub, Nat.reduceMul, Nat.reduceLeDiff, Nat.reduceEqDiff, Nat.reduceBEq, Int.reduceToNat, Int.reduceAdd, Int32.reduceOfInt, Int64.reduceOfInt, Int32.reduceToNatClampNeg, Int32.reduceOfNat, Bool.or_self, Bool.or_false, Bool.false_or, Bool.true_or, Bool.or_true, true_and, and_true, false_and, and_false, List.set_cons_zero, List.set_cons_succ, List.take_succ_cons, List.take_zero, List.drop_succ_cons, List.drop_zero, List.reverse_cons, List.reverse_nil, List.nil_append, List.cons_append, List.length_cons, List.length_nil, Option.toList_some, Option.toList_none, not_true_eq_false, not_false_eq_true, forall_const, true_implies, false_implies, nrw, TTS, shC hc, and01, isCl, hc, hn, subS, xa_1, xa_2, xa_xa, mapF_at, Nat.add_left_cancel_iff, Nat.reduceEqDiff, show ∀ j, (c = c + (j + 1)) = False from fun j => by simp, kk_xa, ix_le _ (show i < 2 ^ 31 by omega), hi2, hi3, hi4, not_true_eq_false, not_false_eq_true, and_true, true_and, and_false, false_and, and_self, or_true, true_or, or_false, false_or, ↓reduceIte, if_true, if_false, eq_self, nI_1]
      repeat' (first | apply And.intro | intro _)
      all_goals first | (rw [mapF_s _ _ _ _ (by simp only [*, not_true_eq_false, not_false_eq_true, and_true, true_and, and_false, false_and, and_self, or_true, true_or, or_false, false_or, ↓reduceIte, if_true, if_false, eq_self])]; done) | (rw [← mapF_k _ _ _ (by simp only [*, not_true_eq_false, not_false_eq_true, and_true, true_and, and_false, false_and, and_self, or_true, true_or, or_false, false_or, ↓reduceIte, if_true, if_false, eq_self])]; done)
    · refine vc_wp (T := TT []) TTn (fun _ => false) (rt0 := none) rfl (ckl_drop 2 c61) rfl ?_
      have hi2 : ix (m.1 c 5) ≤ ix (m.1 c 5) := Nat.le_refl _
      have hi12 : ix (m.1 c 5) < 2 ^ 31 := by have := ix_max (k := 12) hn (by decide); omega
      simp only [List.drop, i61, wp_iinc, wpE0, wpE1, wpE2, wpE3, wpE4, wpE5, wpJ, okS, lt4S, popR, litS, Int32.reduceLT, Int32.reduceLE, List.getElem?_cons_zero, List.getElem?_cons_succ, Bool.false_eq_true, ↓reduceIte, Nat.reduceMod, Nat.reduceDiv, Nat.reduceAdd, Nat.reduceSub, Nat.reduceMul, Nat.reduceLeDiff, Nat.reduceEqDiff, Nat.reduceBEq, Int.reduceToNat, Int.reduceAdd, Int32.reduceOfInt, Int64.reduceOfInt, Int32.reduceToNatClampNeg, Int32.reduceOfNat, Bool.or_self, Bool.or_false, Bool.false_or, Bool.true_or, Bool.or_true, true_and, and_true, false_and, and_false, List.set_cons_zero, List.set_cons_succ, List.take_succ_cons, List.take_zero, List.drop_succ_cons, List.drop_zero, List.reverse_cons, List.reverse_nil, List.nil_append, List.cons_append, List.length_cons, List.length_nil, Option.toList_some, Option.toList_none, not_true_eq_false, not_false_eq_true, forall_const, true_implies, false_implies, nrw, TTS, shC hc, and01, isCl, hc, hn, subS, xa_1, Nat.add_left_cancel_iff, Nat.reduceEqDiff, show ∀ j, (c = c + (j + 1)) = False from fun j => by simp, kk_xa, ix_le _ hi12, hi2, not_true_eq_false, not_false_eq_true, and_true, true_and, and_false, false_and, and_self, or_true, true_or, or_false, false_or, ↓reduceIte, if_true, if_false, eq_self]
      exact h

def S81 (as : List Value) (m : xM) (Q : xQt) : Prop := match as with
  | [.ref c, .int a] => (isC c) ∧ (vp_in a 12) ∧ Q (some (.int (aCold (kk m c) (ix a)))) (m)
  | _ => False
theorem s81 (c : Nat) (a : Int32) (m : xM) (Q : xQt) : S81 [.ref c, .int a] m Q = ((isC c) ∧ (vp_in a 12) ∧ Q (some (.int (aCold (kk m c) (ix a)))) (m)) := rfl
theorem t81 {G : xG} : ∀ as m Q, S81 as m Q → Tri G 81 as m Q := by
  intro as m Q h
  match as, h with
  | [.ref c, .int a], h =>
    obtain ⟨hc, hh, h⟩ := h
    refine tri_wp (T := TT []) (ls := [.ref c, .int a, .null, .null]) TTn c81 (by decide +kernel) (rt0 := some .int) rfl rfl (Nat.le_of_ble_eq_true rfl) rfl ?_
    simp only [i81, wp_iinc, wpE0, wpE1, wpE2, wpE3, wpE4, wpE5, wpJ, okS, lt4S, popR, litS, Int32.reduceLT, Int32.reduceLE, List.getElem?_cons_zero, List.getElem?_cons_succ, Bool.false_eq_true, ↓reduceIte, Nat.reduceMod, Nat.reduceDiv, Nat.reduceAdd, Nat.reduceSub, Nat.reduceMul, Nat.reduceLeDiff, Nat.reduceEqDiff, Nat.reduceBEq, Int.reduceToNat, Int.reduceAdd, Int32.reduceOfInt, Int64.reduceOfInt, Int32.reduceToNatClampNeg, Int32.reduceOfNat, Bool.or_self, Bool.or_false, Bool.false_or, Bool.true_or, Bool.or_true, true_and, and_true, false_and, and_false, List.set_cons_zero, List.set_cons_succ, List.take_succ_cons, List.take_zero, List.drop_succ_cons, List.drop_zero, List.reverse_cons, List.reverse_nil, List.nil_append, List.cons_append, List.length_cons, List.length_nil, Option.toList_some, Option.toList_none, not_true_eq_false, not_false_eq_true, forall_const, true_implies, false_implies, nrw, TTS, shC hc, and01, isCl, hc, hh]
    simp only [aCold, kk, ix] at h
    refine ⟨fun q => ⟨fun z => ?_, fun zq2 => ?_, fun zq2 => ?_⟩, fun q => ?_⟩
    · rw [z] at q; exact absurd q (by decide)
    · simp only [q, zq2, not_true_eq_false, not_false_eq_true, and_true, true_and, and_false, false_and, and_self, or_true, true_or, or_false, false_or, ↓reduceIte, if_true, if_false, eq_self] at h; exact h
    · simp only [q, zq2, not_true_eq_false, not_false_eq_true, and_true, true_and, and_false, false_and, and_self, or_true, true_or, or_false, false_or, ↓reduceIte, if_true, if_false, eq_self] at h; exact h
    · simp only [q, not_true_eq_false, not_false_eq_true, and_true, true_and, and_false, false_and, and_self, or_true, true_or, or_false, false_or, ↓reduceIte, if_true, if_false, eq_self] at h; exact h

def S80 (as : List Value) (m : xM) (Q : xQt) : Prop := match as with
  | [.ref c, .int b] => (isC c) ∧ (m.1 c 5 ≤ 12) ∧ (vp_in b 6) ∧ Q (none) (xa m (c + 13) (mapF (m.1 (c + 13)) (fun h => if m.1 (c + 9) h = b ∧ (¬ m.1 (c + 12) h = 0 ∨ m.1 (c + 5) (ix b) = 4) then (if 0 < m.1 (c + 13) h - aCold (kk m c) h then m.1 (c + 13) h - aCold (kk m c) h else 0) else m.1 (c + 13) h) (ix (m.1 c 5))))
  | _ => False
theorem s80 (c : Nat) (b : Int32) (m : xM) (Q : xQt) : S80 [.ref c, .int b] m Q = ((isC c) ∧ (m.1 c 5 ≤ 12) ∧ (vp_in b 6) ∧ Q (none) (xa m (c + 13) (mapF (m.1 (c + 13)) (fun h => if m.1 (c + 9) h = b ∧ (¬ m.1 (c + 12) h = 0 ∨ m.1 (c + 5) (ix b) = 4) then (if 0 < m.1 (c + 13) h - aCold (kk m c) h then m.1 (c + 13) h - aCold (kk m c) h else 0) else m.1 (c + 13) h) (ix (m.1 c 5))))) := rfl
theorem t80 {G : xG} : ∀ as m Q, S80 as m Q → Tri G 80 as m Q := by
  intro as m Q h
  match as, h with
  | [.ref c, .int b], h =>
    obtain ⟨hc, hn, hb, h⟩ := h
    refine tri_vc (ls := [.ref c, .int b, .null]) (by decide +kernel) rfl (Nat.le_of_ble_eq_true rfl) ?_
    refine vc_seq (pc1 := 2) (ls1 := [.ref c, .int b, .int 0]) (m1 := xa m (c + 13) (mapF (m.1 (c + 13)) (fun h => if m.1 (c + 9) h = b ∧ (¬ m.1 (c + 12) h = 0 ∨ m.1 (c + 5) (ix b) = 4) then (if 0 < m.1 (c + 13) h - aCold (kk m c) h then m.1 (c + 13) h - aCold (kk m c) h else 0) else m.1 (c + 13) h) 0)) (vc_wp (T := TT [(81, S81)]) (TTc t81 TTn) (fun p => p == 2) (rt0 := none) rfl c80 rfl ?_) ?_
    · simp only [i80, wp_iinc, wpE0, wpE1, wpE2, wpE3, wpE4, wpE5, wpJ, okS, lt4S, popR, litS, Int32.reduceLT, Int32.reduceLE, List.getElem?_cons_zero, List.getElem?_cons_succ, Bool.false_eq_true, ↓reduceIte, Nat.reduceMod, Nat.reduceDiv, Nat.reduceAdd, Nat.reduceSub, Nat.reduceMul, Nat.reduceLeDiff, Nat.reduceEqDiff, Nat.reduceBEq, Int.reduceToNat, Int.reduceAdd, Int32.reduceOfInt, Int64.reduceOfInt, Int32.reduceToNatClampNeg, Int32.reduceOfNat, Bool.or_self, Bool.or_false, Bool.false_or, Bool.true_or, Bool.or_true, true_and, and_true, false_and, and_false, List.set_cons_zero, List.set_cons_succ, List.take_succ_cons, List.take_zero, List.drop_succ_cons, List.drop_zero, List.reverse_cons, List.reverse_nil, List.nil_append, List.cons_append, List.length_cons, List.length_nil, Option.toList_some, Option.toList_none, not_true_eq_false, not_false_eq_true, forall_const, true_implies, false_implies, nrw, TTS, s81, shC hc, and01, isCl, hc, hn, hb, subS, true_and, and_true, or_false]
      rw [mapF_0, xa_id]
    refine vc_for (ix (m.1 c 5)) (fun i => [.ref c, .int b, .int (nI i)]) (fun i => xa m (c + 13) (mapF (m.1 (c + 13)) (fun h => if m.1 (c + 9) h = b ∧ (¬ m.1 (c + 12) h = 0 ∨ m.1 (c + 5) (ix b) = 4) then (if 0 < m.1 (c + 13) h - aCold (kk m c) h then m.1 (c + 13) h - aCold (kk m c) h else 0) else m.1 (c + 13) h) i)) (fun i hi => ?_) ?_
    · refine vc_wp (T := TT [(81, S81)]) (TTc t81 TTn) (fun _ => false) (rt0 := none) rfl (ckl_drop 2 c80) rfl ?_
      have hi2 : ¬ ix (m.1 c 5) ≤ i := by omega
      have hi12 : i < 12 := by have := ix_max (k := 12) hn (by decide); omega
      have hi3 : vp_in (nI i) 12 := xin_nI hi12 (by omega)
      have hi4 : (nI i).toNatClampNeg = i := nI_clamp (by omega)
      simp only [List.drop, i80, wp_iinc, wpE0, wpE1, wpE2, wpE3, wpE4, wpE5, wpJ, okS, lt4S, popR, litS, Int32.reduceLT, Int32.reduceLE, List.getElem?_cons_zero, List.getElem?_cons_succ, Bool.false_eq_true, ↓reduceIte, Nat.reduceMod, Nat.reduceDiv, Nat.reduceAdd, Nat.reduceSub, Nat.reduceMul, Nat.reduceLeDiff, Nat.reduceEqDiff, Nat.reduceBEq, Int.reduceToNat, Int.reduceAdd, Int32.reduceOfInt, Int64.reduceOfInt, Int32.reduceToNatClampNeg, Int32.reduceOfNat, Bool.or_self, Bool.or_false, Bool.false_or, Bool.true_or, Bool.or_true, true_and, and_true, false_and, and_false, List.set_cons_zero, List.set_cons_succ, List.take_succ_cons, List.take_zero, List.drop_succ_cons, List.drop_zero, List.reverse_cons, List.reverse_nil, List.nil_append, List.cons_append, List.length_cons, List.length_nil, Option.toList_some, Option.toList_none, not_true_eq_false, not_false_eq_true, forall_const, true_implies, false_implies, nrw, TTS, s81, shC hc, and01, isCl, hc, hn, hb, subS, xa_1, xa_2, xa_xa, mapF_at, Nat.add_left_cancel_iff, Nat.reduceEqDiff, show ∀ j, (c = c + (j + 1)) = False from fun j => by simp, kk_xa, ix_le _ (show i < 2 ^ 31 by omega), hi2, hi3, hi4, not_true_eq_false, not_false_eq_true, and_true, true_and, and_false, false_and, and_self, or_true, true_or, or_false, false_or, ↓reduceIte, if_true, if_false, eq_self, nI_1]
      repeat' (first | apply And.intro | intro _)
      all_goals first | (rw [mapF_s _ _ _ _ (by simp only [*, not_true_eq_false, not_false_eq_true, and_true, true_and, and_false, false_and, and_self, or_true, true_or, or_false, false_or, ↓reduceIte, if_true, if_false, eq_self])]; done) | (rw [← mapF_k _ _ _ (by simp only [*, not_true_eq_false, not_false_eq_true, and_true, true_and, and_false, false_and, and_self, or_true, true_or, or_false, false_or, ↓reduceIte, if_true, if_false, eq_self])]; done)
    · refine vc_wp (T := TT [(81, S81)]) (TTc t81 TTn) (fun _ => false) (rt0 := none) rfl (ckl_drop 2 c80) rfl ?_
      have hi2 : ix (m.1 c 5) ≤ ix (m.1 c 5) := Nat.le_refl _
      have hi12 : ix (m.1 c 5) < 2 ^ 31 := by have := ix_max (k := 12) hn (by decide); omega
      simp only [List.drop, i80, wp_iinc, wpE0, wpE1, wpE2, wpE3, wpE4, wpE5, wpJ, okS, lt4S, popR, litS, Int32.reduceLT, Int32.reduceLE, List.getElem?_cons_zero, List.getElem?_cons_succ, Bool.false_eq_true, ↓reduceIte, Nat.reduceMod, Nat.reduceDiv, Nat.reduceAdd, Nat.reduceSub, Nat.reduceMul, Nat.reduceLeDiff, Nat.reduceEqDiff, Nat.reduceBEq, Int.reduceToNat, Int.reduceAdd, Int32.reduceOfInt, Int64.reduceOfInt, Int32.reduceToNatClampNeg, Int32.reduceOfNat, Bool.or_self, Bool.or_false, Bool.false_or, Bool.true_or, Bool.or_true, true_and, and_true, false_and, and_false, List.set_cons_zero, List.set_cons_succ, List.take_succ_cons, List.take_zero, List.drop_succ_cons, List.drop_zero, List.reverse_cons, List.reverse_nil, List.nil_append, List.cons_append, List.length_cons, List.length_nil, Option.toList_some, Option.toList_none, not_true_eq_false, not_false_eq_true, forall_const, true_implies, false_implies, nrw, TTS, s81, shC hc, and01, isCl, hc, hn, hb, subS, xa_1, Nat.add_left_cancel_iff, Nat.reduceEqDiff, show ∀ j, (c = c + (j + 1)) = False from fun j => by simp, kk_xa, ix_le _ hi12, hi2, not_true_eq_false, not_false_eq_true, and_true, true_and, and_false, false_and, and_self, or_true, true_or, or_false, false_or, ↓reduceIte, if_true, if_false, eq_self]
      exact h

def S67 (as : List Value) (m : xM) (Q : xQt) : Prop := match as with
  | [.ref c, .int b] => (isC c) ∧ (vp_in b 6) ∧ (m.1 c 5 ≤ 12) ∧ Q (some (.int (aNeed (kk m c) (g6 m c) b))) (m)
  | _ => False
theorem s67 (c : Nat) (b : Int32) (m : xM) (Q : xQt) : S67 [.ref c, .int b] m Q = ((isC c) ∧ (vp_in b 6) ∧ (m.1 c 5 ≤ 12) ∧ Q (some (.int (aNeed (kk m c) (g6 m c) b))) (m)) := rfl
theorem t67 {G : xG} : ∀ as m Q, S67 as m Q → Tri G 67 as m Q := by
  intro as m Q h
  match as, h with
  | [.ref c, .int b], h =>
    obtain ⟨hc, hb, hn, h⟩ := h
    refine tri_wp (T := TT [(68, S68), (69, S69)]) (ls := [.ref c, .int b]) (TTc t68 (TTc t69 TTn)) c67 (by decide +kernel) (rt0 := some .int) rfl rfl (Nat.le_of_ble_eq_true rfl) rfl ?_
    simp only [i67, wp_iinc, wpE0, wpE1, wpE2, wpE3, wpE4, wpE5, wpJ, okS, lt4S, popR, litS, Int32.reduceLT, Int32.reduceLE, List.getElem?_cons_zero, List.getElem?_cons_succ, Bool.false_eq_true, ↓reduceIte, Nat.reduceMod, Nat.reduceDiv, Nat.reduceAdd, Nat.reduceSub, Nat.reduceMul, Nat.reduceLeDiff, Nat.reduceEqDiff, Nat.reduceBEq, Int.reduceToNat, Int.reduceAdd, Int32.reduceOfInt, Int64.reduceOfInt, Int32.reduceToNatClampNeg, Int32.reduceOfNat, Bool.or_self, Bool.or_false, Bool.false_or, Bool.true_or, Bool.or_true, true_and, and_true, false_and, and_false, List.set_cons_zero, List.set_cons_succ, List.take_succ_cons, List.take_zero, List.drop_succ_cons, List.drop_zero, List.reverse_cons, List.reverse_nil, List.nil_append, List.cons_append, List.length_cons, List.length_nil, Option.toList_some, Option.toList_none, not_true_eq_false, not_false_eq_true, forall_const, true_implies, false_implies, nrw, TTS, s68, s69, shC hc, and01, isCl, hc, hb, hn]
    refine ⟨fun q => ?_, fun q => ?_⟩
    · exact Eq.mp (congrArg (fun z => Q (some (.int (10 * m.1 (c + 2) (ix b) + m.1 (c + 6) (ix b) + z))) m) (if_pos q)) h
    · exact Eq.mp (congrArg (fun z => Q (some (.int (10 * m.1 (c + 2) (ix b) + m.1 (c + 6) (ix b) + z))) m) (if_neg q)) h

def S70 (as : List Value) (m : xM) (Q : xQt) : Prop := match as with
  | [.ref c, .int b] => (isC c) ∧ (vp_in b 6) ∧ (m.1 c 5 ≤ 12) ∧ Q (some (.int (aLever (kk m c) (g6 m c) b))) (m)
  | _ => False
theorem s70 (c : Nat) (b : Int32) (m : xM) (Q : xQt) : S70 [.ref c, .int b] m Q = ((isC c) ∧ (vp_in b 6) ∧ (m.1 c 5 ≤ 12) ∧ Q (some (.int (aLever (kk m c) (g6 m c) b))) (m)) := rfl
theorem t70 {G : xG} : ∀ as m Q, S70 as m Q → Tri G 70 as m Q := by
  intro as m Q h
  match as, h with
  | [.ref c, .int b], h =>
    obtain ⟨hc, hb, hn, h⟩ := h
    refine tri_wp (T := TT [(71, S71), (72, S72)]) (ls := [.ref c, .int b]) (TTc t71 (TTc t72 TTn)) c70 (by decide +kernel) (rt0 := some .int) rfl rfl (Nat.le_of_ble_eq_true rfl) rfl ?_
    simp only [i70, wp_iinc, wpE0, wpE1, wpE2, wpE3, wpE4, wpE5, wpJ, okS, lt4S, popR, litS, Int32.reduceLT, Int32.reduceLE, List.getElem?_cons_zero, List.getElem?_cons_succ, Bool.false_eq_true, ↓reduceIte, Nat.reduceMod, Nat.reduceDiv, Nat.reduceAdd, Nat.reduceSub, Nat.reduceMul, Nat.reduceLeDiff, Nat.reduceEqDiff, Nat.reduceBEq, Int.reduceToNat, Int.reduceAdd, Int32.reduceOfInt, Int64.reduceOfInt, Int32.reduceToNatClampNeg, Int32.reduceOfNat, Bool.or_self, Bool.or_false, Bool.false_or, Bool.true_or, Bool.or_true, true_and, and_true, false_and, and_false, List.set_cons_zero, List.set_cons_succ, List.take_succ_cons, List.take_zero, List.drop_succ_cons, List.drop_zero, List.reverse_cons, List.reverse_nil, List.nil_append, List.cons_append, List.length_cons, List.length_nil, Option.toList_some, Option.toList_none, not_true_eq_false, not_false_eq_true, forall_const, true_implies, false_implies, nrw, TTS, s71, s72, shC hc, and01, isCl, hc, hb, hn]
    exact h

def S60 (as : List Value) (m : xM) (Q : xQt) : Prop := match as with
  | [.ref c, .int b] => (isC c) ∧ (vp_in b 6) ∧ (m.1 c 5 ≤ 12) ∧ Q (none) (s6 m c (aCap (kk m c) (g6 m c) b))
  | _ => False
theorem s60 (c : Nat) (b : Int32) (m : xM) (Q : xQt) : S60 [.ref c, .int b] m Q = ((isC c) ∧ (vp_in b 6) ∧ (m.1 c 5 ≤ 12) ∧ Q (none) (s6 m c (aCap (kk m c) (g6 m c) b))) := rfl
theorem t60 {G : xG} : ∀ as m Q, S60 as m Q → Tri G 60 as m Q := by
  intro as m Q h
  match as, h with
  | [.ref c, .int b], h =>
    obtain ⟨hc, hb, hn, h⟩ := h
    refine tri_wp (T := TT [(61, S61)]) (ls := [.ref c, .int b]) (TTc t61 TTn) c60 (by decide +kernel) (rt0 := none) rfl rfl (Nat.le_of_ble_eq_true rfl) rfl ?_
    simp only [i60, wp_iinc, wpE0, wpE1, wpE2, wpE3, wpE4, wpE5, wpJ, okS, lt4S, popR, litS, Int32.reduceLT, Int32.reduceLE, List.getElem?_cons_zero, List.getElem?_cons_succ, Bool.false_eq_true, ↓reduceIte, Nat.reduceMod, Nat.reduceDiv, Nat.reduceAdd, Nat.reduceSub, Nat.reduceMul, Nat.reduceLeDiff, Nat.reduceEqDiff, Nat.reduceBEq, Int.reduceToNat, Int.reduceAdd, Int32.reduceOfInt, Int64.reduceOfInt, Int32.reduceToNatClampNeg, Int32.reduceOfNat, Bool.or_self, Bool.or_false, Bool.false_or, Bool.true_or, Bool.or_true, true_and, and_true, false_and, and_false, List.set_cons_zero, List.set_cons_succ, List.take_succ_cons, List.take_zero, List.drop_succ_cons, List.drop_zero, List.reverse_cons, List.reverse_nil, List.nil_append, List.cons_append, List.length_cons, List.length_nil, Option.toList_some, Option.toList_none, not_true_eq_false, not_false_eq_true, forall_const, true_implies, false_implies, nrw, TTS, s61, shC hc, and01, isCl, s6S, xa_1, xa_2, xb_1, xb_2, Nat.add_left_cancel_iff, Nat.reduceEqDiff, show ∀ j, (c = c + (j + 1)) = False from fun j => by simp, hc, hb, hn]
    refine q_eq h (s6_eq ?_ ?_ ?_ ?_ ?_ ?_ ?_ ?_) <;> (try intros) <;> first | rfl | (simp only [aCap, aSend, kk, g6, kWa, kWi, kMu, kNb, kNh, kBe, kSa, kAi, kFl, kBo, kWe, kLa, xHo, xMa, xWa, xSi, xSp, xGr, s6S, xa_1, xa_2, xb_1, xb_2, Nat.add_left_cancel_iff, Nat.reduceEqDiff, show ∀ j, (c = c + (j + 1)) = False from fun j => by simp, xa_xa, not_true_eq_false, not_false_eq_true, and_true, true_and, and_false, false_and, and_self, or_true, true_or, or_false, false_or, ↓reduceIte, if_true, if_false, eq_self, ne_eq, *]; done) | (simp only [aCap, aSend, kk, g6, kWa, kWi, kMu, kNb, kNh, kBe, kSa, kAi, kFl, kBo, kWe, kLa, xHo, xMa, xWa, xSi, xSp, xGr, s6S, xa_1, xa_2, xb_1, xb_2, Nat.add_left_cancel_iff, Nat.reduceEqDiff, show ∀ j, (c = c + (j + 1)) = False from fun j => by simp, xa_xa, not_true_eq_false, not_false_eq_true, and_true, true_and, and_false, false_and, and_self, or_true, true_or, or_false, false_or, ↓reduceIte, if_true, if_false, eq_self, ne_eq, *]; rfl)

def S75 (as : List Value) (m : xM) (Q : xQt) : Prop := match as with
  | [.ref c, .int b] => (isC c) ∧ (vp_in b 6) ∧ Q (none) (s6 m c (aFill (kk m c) (g6 m c) b))
  | _ => False
theorem s75 (c : Nat) (b : Int32) (m : xM) (Q : xQt) : S75 [.ref c, .int b] m Q = ((isC c) ∧ (vp_in b 6) ∧ Q (none) (s6 m c (aFill (kk m c) (g6 m c) b))) := rfl
theorem t75 {G : xG} : ∀ as m Q, S75 as m Q → Tri G 75 as m Q := by
  intro as m Q h
  match as, h with
  | [.ref c, .int b], h =>
    obtain ⟨hc, hb, h⟩ := h
    refine tri_wp (T := TT []) (ls := [.ref c, .int b]) TTn c75 (by decide +kernel) (rt0 := none) rfl rfl (Nat.le_of_ble_eq_true rfl) rfl ?_
    simp only [i75, wp_iinc, wpE0, wpE1, wpE2, wpE3, wpE4, wpE5, wpJ, okS, lt4S, popR, litS, Int32.reduceLT, Int32.reduceLE, List.getElem?_cons_zero, List.getElem?_cons_succ, Bool.false_eq_true, ↓reduceIte, Nat.reduceMod, Nat.reduceDiv, Nat.reduceAdd, Nat.reduceSub, Nat.reduceMul, Nat.reduceLeDiff, Nat.reduceEqDiff, Nat.reduceBEq, Int.reduceToNat, Int.reduceAdd, Int32.reduceOfInt, Int64.reduceOfInt, Int32.reduceToNatClampNeg, Int32.reduceOfNat, Bool.or_self, Bool.or_false, Bool.false_or, Bool.true_or, Bool.or_true, true_and, and_true, false_and, and_false, List.set_cons_zero, List.set_cons_succ, List.take_succ_cons, List.take_zero, List.drop_succ_cons, List.drop_zero, List.reverse_cons, List.reverse_nil, List.nil_append, List.cons_append, List.length_cons, List.length_nil, Option.toList_some, Option.toList_none, not_true_eq_false, not_false_eq_true, forall_const, true_implies, false_implies, nrw, TTS, shC hc, and01, isCl, lt4S, upd_at, s6S, xa_1, xa_2, xb_1, xb_2, Nat.add_left_cancel_iff, Nat.reduceEqDiff, show ∀ j, (c = c + (j + 1)) = False from fun j => by simp, hc, hb]
    have e : (if (m.1 (c + 6) (ix b) + 20 - m.1 (c + 4) (ix b)) < 100 then m.1 (c + 6) (ix b) + 20 - m.1 (c + 4) (ix b) else 100) = aFillM (kk m c) (g6 m c) b := rfl
    rw [e]
    refine ⟨fun q => ⟨fun q2 => ?_, fun q2 => ?_⟩, fun q => ?_⟩
    · have e2 : aFill (kk m c) (g6 m c) b = (upd (m.1 (c + 5)) (ix b) 2, upd (m.1 (c + 6)) (ix b) (aFillM (kk m c) (g6 m c) b), (g6 m c).2.2) := by
        unfold aFill
        rw [if_pos q, if_pos (show kMu (kk m c) = 0 from q2)]
        rfl
      rw [e2] at h
      refine q_eq h (s6_eq ?_ ?_ ?_ ?_ ?_ ?_ ?_ ?_) <;> (try intros) <;> first | rfl | (simp only [g6, s6S, xa_1, xa_2, xb_1, xb_2, Nat.add_left_cancel_iff, Nat.reduceEqDiff, show ∀ j, (c = c + (j + 1)) = False from fun j => by simp, xa_xa, not_true_eq_false, not_false_eq_true, and_true, true_and, and_false, false_and, and_self, or_true, true_or, or_false, false_or, ↓reduceIte, if_true, if_false, eq_self, ne_eq, *]; done)
    · have e2 : aFill (kk m c) (g6 m c) b = (upd (m.1 (c + 5)) (ix b) 3, upd (m.1 (c + 6)) (ix b) (aFillM (kk m c) (g6 m c) b), (g6 m c).2.2) := by
        unfold aFill
        rw [if_pos q, if_neg (show ¬ kMu (kk m c) = 0 from q2)]
        rfl
      rw [e2] at h
      refine q_eq h (s6_eq ?_ ?_ ?_ ?_ ?_ ?_ ?_ ?_) <;> (try intros) <;> first | rfl | (simp only [g6, s6S, xa_1, xa_2, xb_1, xb_2, Nat.add_left_cancel_iff, Nat.reduceEqDiff, show ∀ j, (c = c + (j + 1)) = False from fun j => by simp, xa_xa, not_true_eq_false, not_false_eq_true, and_true, true_and, and_false, false_and, and_self, or_true, true_or, or_false, false_or, ↓reduceIte, if_true, if_false, eq_self, ne_eq, *]; done)
    · have e2 : aFill (kk m c) (g6 m c) b = (m.1 (c + 5), upd (m.1 (c + 6)) (ix b) (aFillM (kk m c) (g6 m c) b), (g6 m c).2.2) := by
        unfold aFill
        rw [if_neg q]
        rfl
      rw [e2] at h
      refine q_eq h (s6_eq ?_ ?_ ?_ ?_ ?_ ?_ ?_ ?_) <;> (try intros) <;> first | rfl | (simp only [g6, s6S, xa_1, xa_2, xb_1, xb_2, Nat.add_left_cancel_iff, Nat.reduceEqDiff, show ∀ j, (c = c + (j + 1)) = False from fun j => by simp, xa_xa, not_true_eq_false, not_false_eq_true, and_true, true_and, and_false, false_and, and_self, or_true, true_or, or_false, false_or, ↓reduceIte, if_true, if_false, eq_self, ne_eq, *]; done)

def S74 (as : List Value) (m : xM) (Q : xQt) : Prop := match as with
  | [.ref d, .int n] => (isD d) ∧ (1 ≤ n) ∧ Q (some (.long (aDraw (m.2 d 1) - aDraw (m.2 d 1) / n.toInt64 * n.toInt64))) (xb m d (vp_updL (m.2 d) 1 (aDraw (m.2 d 1))))
  | _ => False
theorem s74 (d : Nat) (n : Int32) (m : xM) (Q : xQt) : S74 [.ref d, .int n] m Q = ((isD d) ∧ (1 ≤ n) ∧ Q (some (.long (aDraw (m.2 d 1) - aDraw (m.2 d 1) / n.toInt64 * n.toInt64))) (xb m d (vp_updL (m.2 d) 1 (aDraw (m.2 d 1))))) := rfl
theorem t74 {G : xG} : ∀ as m Q, S74 as m Q → Tri G 74 as m Q := by
  intro as m Q h
  match as, h with
  | [.ref d, .int n], h =>
    obtain ⟨hd, hn1, h⟩ := h
    refine tri_wp (T := TT []) (ls := [.ref d, .int n]) TTn c74 (by decide +kernel) (rt0 := some .long) rfl rfl (Nat.le_of_ble_eq_true rfl) rfl ?_
    simp only [i74, wp_iinc, wpE0, wpE1, wpE2, wpE3, wpE4, wpE5, wpJ, okS, lt4S, popR, litS, Int32.reduceLT, Int32.reduceLE, List.getElem?_cons_zero, List.getElem?_cons_succ, Bool.false_eq_true, ↓reduceIte, Nat.reduceMod, Nat.reduceDiv, Nat.reduceAdd, Nat.reduceSub, Nat.reduceMul, Nat.reduceLeDiff, Nat.reduceEqDiff, Nat.reduceBEq, Int.reduceToNat, Int.reduceAdd, Int32.reduceOfInt, Int64.reduceOfInt, Int32.reduceToNatClampNeg, Int32.reduceOfNat, Bool.or_self, Bool.or_false, Bool.false_or, Bool.true_or, Bool.or_true, true_and, and_true, false_and, and_false, List.set_cons_zero, List.set_cons_succ, List.take_succ_cons, List.take_zero, List.drop_succ_cons, List.drop_zero, List.reverse_cons, List.reverse_nil, List.nil_append, List.cons_append, List.length_cons, List.length_nil, Option.toList_some, Option.toList_none, not_true_eq_false, not_false_eq_true, forall_const, true_implies, false_implies, nrw, TTS, shD hd, isDl, xa_1, xa_2, xb_1, xb_2, Nat.reduceEqDiff, hd, hn1]
    refine ⟨by decide, ?_, ?_⟩
    · intro z
      have z2 := congrArg Int64.toInt z
      rw [Int32.toInt_toInt64] at z2
      have h1 : (1 : Int32).toInt ≤ n.toInt := Int32.le_iff_toInt_le.mp hn1
      have h0 : (1 : Int32).toInt = 1 := by decide
      have h3 : (0 : Int64).toInt = 0 := by decide
      omega
    · exact h
end
section
theorem g6_xa (m : xM) (c : Nat) (f : Nat → Int32) : g6 (xa m (c + 5) f) c = (f, (g6 m c).2) ∧ g6 (xa m (c + 6) f) c = ((g6 m c).1, f, (g6 m c).2.2) ∧ g6 (xa m (c + 7) f) c = ((g6 m c).1, (g6 m c).2.1, f, (g6 m c).2.2.2) ∧ g6 (xa m (c + 8) f) c = ((g6 m c).1, (g6 m c).2.1, (g6 m c).2.2.1, f, (g6 m c).2.2.2.2) ∧ g6 (xa m (c + 12) f) c = ((g6 m c).1, (g6 m c).2.1, (g6 m c).2.2.1, (g6 m c).2.2.2.1, f, (g6 m c).2.2.2.2.2) ∧ g6 (xa m (c + 13) f) c = ((g6 m c).1, (g6 m c).2.1, (g6 m c).2.2.1, (g6 m c).2.2.2.1, (g6 m c).2.2.2.2.1, f) := by
  refine ⟨?_, ?_, ?_, ?_, ?_, ?_⟩ <;> simp [g6, xa_1]
theorem s6_xa (m : xM) (c : Nat) (f : Nat → Int32) (X : X6) : s6 (xa m (c + 5) f) c X = s6 m c X ∧ s6 (xa m (c + 6) f) c X = s6 m c X ∧ s6 (xa m (c + 7) f) c X = s6 m c X ∧ s6 (xa m (c + 8) f) c X = s6 m c X ∧ s6 (xa m (c + 12) f) c X = s6 m c X ∧ s6 (xa m (c + 13) f) c X = s6 m c X := by
  have key : ∀ k, (k = c + 5 ∨ k = c + 6 ∨ k = c + 7 ∨ k = c + 8 ∨ k = c + 12 ∨ k = c + 13) → s6 (xa m k f) c X = s6 m c X := by
    intro k hk
    obtain ⟨h1, h2, h3, h4, h5, h6, -⟩ := s6S (xa m k f) c X
    refine s6_eq h1 h2 h3 h4 h5 h6 (fun q e5 e6 e7 e8 e12 e13 => ?_) rfl
    simp only [s6, if_neg e5, if_neg e6, if_neg e7, if_neg e8, if_neg e12, if_neg e13, xa_1]
    rw [if_neg]
    rintro rfl
    rcases hk with h | h | h | h | h | h
    · exact e5 h
    · exact e6 h
    · exact e7 h
    · exact e8 h
    · exact e12 h
    · exact e13 h
  exact ⟨key _ (by simp), key _ (by simp), key _ (by simp), key _ (by simp), key _ (by simp), key _ (by simp)⟩
theorem xb_s6 (m : xM) (c d : Nat) (X : X6) (f : Nat → Int64) : xb (s6 m c X) d f = s6 (xb m d f) c X := rfl
theorem xb_xa (m : xM) (k d : Nat) (f : Nat → Int32) (g : Nat → Int64) : xb (xa m k f) d g = xa (xb m d g) k f := rfl
theorem xb_id (m : xM) (d : Nat) : xb m d (vp_updL (m.2 d) 1 (m.2 d 1)) = m := by
  refine Prod.ext rfl (funext fun q => ?_)
  show (if q = d then _ else m.2 q) = m.2 q
  by_cases h : q = d
  · subst h
    rw [if_pos rfl]
    funext j
    simp only [vp_updL]
    by_cases hj : j = 1
    · subst hj; simp
    · rw [if_neg hj]
  · rw [if_neg h]
theorem neCD {c d : Nat} (hc : isC c) (hd : isD d) : (d = c + 5) = False ∧ (d = c + 6) = False ∧ (d = c + 7) = False ∧ (d = c + 8) = False ∧ (d = c + 12) = False ∧ (d = c + 13) = False ∧ (d = c) = False := by
  rcases hc with rfl | rfl | rfl | rfl | rfl <;> rcases hd with rfl | rfl <;> decide
theorem s6D {m : xM} {c d : Nat} {X : X6} (hc : isC c) (hd : isD d) : (s6 m c X).1 d = m.1 d := s6_o (by rcases hc with rfl | rfl | rfl | rfl | rfl <;> rcases hd with rfl | rfl <;> decide)
theorem i2lS : (100 : Int32).toInt64 = 100 ∧ (10 : Int32).toInt64 = 10 ∧ (0 : Int32).toInt64 = 0 ∧ (1 : Int32).toInt64 = 1 ∧ (7 : Int32).toInt64 = 7 ∧ (2 : Int32).toInt64 = 2 := by decide
theorem vc_cut {G : xG} {y : Nat} {Q : xQt} {K : Nat → List Value → List Value → xM → Prop} {pc : Nat} {ls : List Value} {m : xM} (pc1 : Nat) (ls1 : List Value) (P : xM → Prop) (h1 : VC G y Q (fun pc' ls' st' m' => (pc' = pc1 ∧ st' = [] ∧ subL ls1 ls' ∧ P m') ∨ K pc' ls' st' m') pc ls [] m) (h2 : ∀ m1, P m1 → VC G y Q K pc1 ls1 [] m1) : VC G y Q K pc ls [] m := by
  refine vc_mono ?_ h1
  intro pc' ls' st' m' h
  rcases h with ⟨rfl, rfl, h3, h4⟩ | h
  · obtain ⟨g1, g2⟩ := subL_len h3
    exact vc_sub g1 g2 (h2 _ h4)
  · exact fun hK hl => hK _ _ _ _ hl h

theorem u61 (m : xM) (c : Nat) (b f t : Int32) : xa m (c + 12) (mapF (m.1 (c + 12)) (fun h => if m.1 (c + 9) h = b ∧ m.1 (c + 12) h = f then t else m.1 (c + 12) h) (ix (m.1 c 5))) = s6 m c (aSend (kk m c) (g6 m c) b f t) := by
  refine s6_eq ?_ ?_ ?_ ?_ ?_ ?_ (fun q e5 e6 e7 e8 e12 e13 => ?_) rfl
  · simp [xa_1]; rfl
  · simp [xa_1]; rfl
  · simp [xa_1]; rfl
  · simp [xa_1]; rfl
  · simp [xa_1]; rfl
  · simp [xa_1]; rfl
  · simp [xa_1, e12]
theorem u80 (m : xM) (c : Nat) (b : Int32) : xa m (c + 13) (mapF (m.1 (c + 13)) (fun h => if m.1 (c + 9) h = b ∧ (¬ m.1 (c + 12) h = 0 ∨ m.1 (c + 5) (ix b) = 4) then (if 0 < m.1 (c + 13) h - aCold (kk m c) h then m.1 (c + 13) h - aCold (kk m c) h else 0) else m.1 (c + 13) h) (ix (m.1 c 5))) = s6 m c (aChill (kk m c) (g6 m c) b) := by
  refine s6_eq ?_ ?_ ?_ ?_ ?_ ?_ (fun q e5 e6 e7 e8 e12 e13 => ?_) rfl
  · simp [xa_1]; rfl
  · simp [xa_1]; rfl
  · simp [xa_1]; rfl
  · simp [xa_1]; rfl
  · simp [xa_1]; rfl
  · simp [xa_1]; rfl
  · simp [xa_1, e13]

theorem v68 (m : xM) (c : Nat) (b p : Int32) : fd (fun h => if m.1 (c + 9) h = b ∧ m.1 (c + 12) h = p ∧ ¬ m.1 (c + 13) h ≤ 0 then 1 else 0) (ix (m.1 c 5)) = aAble (kk m c) (g6 m c) b p := rfl
theorem v78 (m : xM) (c : Nat) (b : Int32) : fd (fun h => if m.1 (c + 9) h = b ∧ m.1 (c + 12) h = 0 then m.1 (c + 10) h else 0) (ix (m.1 c 5)) = aIn (kk m c) (g6 m c) b := rfl

def S61b (as : List Value) (m : xM) (Q : xQt) : Prop := match as with
  | [.ref c, .int b, .int f, .int t] => (isC c) ∧ (m.1 c 5 ≤ 12) ∧ Q (none) (s6 m c (aSend (kk m c) (g6 m c) b f t))
  | _ => False
theorem s61b (c : Nat) (b : Int32) (f : Int32) (t : Int32) (m : xM) (Q : xQt) : S61b [.ref c, .int b, .int f, .int t] m Q = ((isC c) ∧ (m.1 c 5 ≤ 12) ∧ Q (none) (s6 m c (aSend (kk m c) (g6 m c) b f t))) := rfl
theorem t61b {G : xG} : ∀ as m Q, S61b as m Q → Tri G 61 as m Q := by
  intro as m Q h
  match as, h with
  | [.ref c, .int b, .int f, .int t], h =>
    obtain ⟨hc, hn, h⟩ := h
    exact t61 [.ref c, .int b, .int f, .int t] m Q ⟨hc, hn, by rw [u61]; exact h⟩

def S80b (as : List Value) (m : xM) (Q : xQt) : Prop := match as with
  | [.ref c, .int b] => (isC c) ∧ (m.1 c 5 ≤ 12) ∧ (vp_in b 6) ∧ Q (none) (s6 m c (aChill (kk m c) (g6 m c) b))
  | _ => False
theorem s80b (c : Nat) (b : Int32) (m : xM) (Q : xQt) : S80b [.ref c, .int b] m Q = ((isC c) ∧ (m.1 c 5 ≤ 12) ∧ (vp_in b 6) ∧ Q (none) (s6 m c (aChill (kk m c) (g6 m c) b))) := rfl
theorem t80b {G : xG} : ∀ as m Q, S80b as m Q → Tri G 80 as m Q := by
  intro as m Q h
  match as, h with
  | [.ref c, .int b], h =>
    obtain ⟨hc, hn, hb, h⟩ := h
    exact t80 [.ref c, .int b] m Q ⟨hc, hn, hb, by rw [u80]; exact h⟩

def S68b (as : List Value) (m : xM) (Q : xQt) : Prop := match as with
  | [.ref c, .int b, .int p] => (isC c) ∧ (m.1 c 5 ≤ 12) ∧ Q (some (.int (aAble (kk m c) (g6 m c) b p))) (m)
  | _ => False
theorem s68b (c : Nat) (b : Int32) (p : Int32) (m : xM) (Q : xQt) : S68b [.ref c, .int b, .int p] m Q = ((isC c) ∧ (m.1 c 5 ≤ 12) ∧ Q (some (.int (aAble (kk m c) (g6 m c) b p))) (m)) := rfl
theorem t68b {G : xG} : ∀ as m Q, S68b as m Q → Tri G 68 as m Q := by
  intro as m Q h
  match as, h with
  | [.ref c, .int b, .int p], h =>
    obtain ⟨hc, hn, h⟩ := h
    exact t68 [.ref c, .int b, .int p] m Q ⟨hc, hn, by exact h⟩

def S78b (as : List Value) (m : xM) (Q : xQt) : Prop := match as with
  | [.ref c, .int b] => (isC c) ∧ (m.1 c 5 ≤ 12) ∧ Q (some (.int (aIn (kk m c) (g6 m c) b))) (m)
  | _ => False
theorem s78b (c : Nat) (b : Int32) (m : xM) (Q : xQt) : S78b [.ref c, .int b] m Q = ((isC c) ∧ (m.1 c 5 ≤ 12) ∧ Q (some (.int (aIn (kk m c) (g6 m c) b))) (m)) := rfl
theorem t78b {G : xG} : ∀ as m Q, S78b as m Q → Tri G 78 as m Q := by
  intro as m Q h
  match as, h with
  | [.ref c, .int b], h =>
    obtain ⟨hc, hn, h⟩ := h
    exact t78 [.ref c, .int b] m Q ⟨hc, hn, by exact h⟩

def S73 (as : List Value) (m : xM) (Q : xQt) : Prop := match as with
  | [.ref c, .int b, .ref d] => (isC c) ∧ (vp_in b 6) ∧ (m.1 c 5 ≤ 12) ∧ (isD d) ∧ Q (none) (s6 (xb m d (vp_updL (m.2 d) 1 (aUp (kk m c) (g6 m c) b (m.1 d 0) (m.2 d 1)).2)) c (aUp (kk m c) (g6 m c) b (m.1 d 0) (m.2 d 1)).1)
  | _ => False
theorem s73 (c : Nat) (b : Int32) (d : Nat) (m : xM) (Q : xQt) : S73 [.ref c, .int b, .ref d] m Q = ((isC c) ∧ (vp_in b 6) ∧ (m.1 c 5 ≤ 12) ∧ (isD d) ∧ Q (none) (s6 (xb m d (vp_updL (m.2 d) 1 (aUp (kk m c) (g6 m c) b (m.1 d 0) (m.2 d 1)).2)) c (aUp (kk m c) (g6 m c) b (m.1 d 0) (m.2 d 1)).1)) := rfl
theorem t73 {G : xG} : ∀ as m Q, S73 as m Q → Tri G 73 as m Q := by
  intro as m Q h
  match as, h with
  | [.ref c, .int b, .ref d], h =>
    obtain ⟨hc, hb, hn, hd, h⟩ := h
    refine tri_vc (ls := [.ref c, .int b, .ref d]) (by decide +kernel) rfl (Nat.le_of_ble_eq_true rfl) ?_
    refine vc_cut 39 [.ref c, .int b, .ref d] (fun m1 => m1 = s6 m c (aUp1 (kk m c) (g6 m c) b)) (vc_wp (T := TT [(61, S61b), (68, S68b), (74, S74), (60, S60)]) (TTc t61b (TTc t68b (TTc t74 (TTc t60 TTn)))) (fun p => p == 39) (rt0 := none) rfl c73 rfl ?_) ?_
    · simp only [i73, wp_iinc, wpE0, wpE1, wpE2, wpE3, wpE4, wpE5, wpJ, okS, lt4S, popR, litS, Int32.reduceLT, Int32.reduceLE, List.getElem?_cons_zero, List.getElem?_cons_succ, Bool.false_eq_true, ↓reduceIte, Nat.reduceMod, Nat.reduceDiv, Nat.reduceAdd, Nat.reduceSub, Nat.reduceMul, Nat.reduceLeDiff, Nat.reduceEqDiff, Nat.reduceBEq, Int.reduceToNat, Int.reduceAdd, Int32.reduceOfInt, Int64.reduceOfInt, Int32.reduceToNatClampNeg, Int32.reduceOfNat, Bool.or_self, Bool.or_false, Bool.false_or, Bool.true_or, Bool.or_true, true_and, and_true, false_and, and_false, List.set_cons_zero, List.set_cons_succ, List.take_succ_cons, List.take_zero, List.drop_succ_cons, List.drop_zero, List.reverse_cons, List.reverse_nil, List.nil_append, List.cons_append, List.length_cons, List.length_nil, Option.toList_some, Option.toList_none, not_true_eq_false, not_false_eq_true, forall_const, true_implies, false_implies, nrw, TTS, s61b, s68b, s74, s60, shC hc, and01, isCl, kk_xa, kk_s6, kk_xb, g6_xa, g6_s6, g6_xb, s6_xa, s6_s6, xb_s6, xb_xa, s6S, xa_1, xa_2, xb_1, xb_2, Nat.add_left_cancel_iff, Nat.reduceEqDiff, i2lS, show ∀ j, (c = c + (j + 1)) = False from fun j => by simp, hc, hb, hn, hd, subS, not_true_eq_false, not_false_eq_true, and_true, true_and, and_false, false_and, and_self, or_true, true_or, or_false, false_or, ↓reduceIte, if_true, if_false, eq_self, true_and, and_true, or_false]
      rfl
    · rintro m1 rfl
      refine vc_wp (T := TT [(61, S61b), (68, S68b), (74, S74), (60, S60)]) (TTc t61b (TTc t68b (TTc t74 (TTc t60 TTn)))) (fun _ => false) (rt0 := none) rfl (ckl_drop 27 c73) rfl ?_
      simp only [List.drop, i73, wp_iinc, wpE0, wpE1, wpE2, wpE3, wpE4, wpE5, wpJ, okS, lt4S, popR, litS, Int32.reduceLT, Int32.reduceLE, List.getElem?_cons_zero, List.getElem?_cons_succ, Bool.false_eq_true, ↓reduceIte, Nat.reduceMod, Nat.reduceDiv, Nat.reduceAdd, Nat.reduceSub, Nat.reduceMul, Nat.reduceLeDiff, Nat.reduceEqDiff, Nat.reduceBEq, Int.reduceToNat, Int.reduceAdd, Int32.reduceOfInt, Int64.reduceOfInt, Int32.reduceToNatClampNeg, Int32.reduceOfNat, Bool.or_self, Bool.or_false, Bool.false_or, Bool.true_or, Bool.or_true, true_and, and_true, false_and, and_false, List.set_cons_zero, List.set_cons_succ, List.take_succ_cons, List.take_zero, List.drop_succ_cons, List.drop_zero, List.reverse_cons, List.reverse_nil, List.nil_append, List.cons_append, List.length_cons, List.length_nil, Option.toList_some, Option.toList_none, not_true_eq_false, not_false_eq_true, forall_const, true_implies, false_implies, nrw, TTS, s61b, s68b, s74, s60, shC hc, and01, isCl, kk_xa, kk_s6, kk_xb, g6_xa, g6_s6, g6_xb, s6_xa, s6_s6, xb_s6, xb_xa, s6S, xa_1, xa_2, xb_1, xb_2, Nat.add_left_cancel_iff, Nat.reduceEqDiff, i2lS, show ∀ j, (c = c + (j + 1)) = False from fun j => by simp, hc, hb, hn, hd, s6D hc hd, hd, cmpS, not_true_eq_false, not_false_eq_true, and_true, true_and, and_false, false_and, and_self, or_true, true_or, or_false, false_or, ↓reduceIte, if_true, if_false, eq_self, shD hd, show (1 : Int32) ≤ 100 from by decide]
      unfold aUp at h
      refine ⟨fun q => ⟨fun q2 => ?_, fun q2 => ?_⟩, fun q => ?_⟩
      · rw [if_pos q, if_pos q2] at h
        refine ⟨fun q3 => ?_, fun q3 => ?_⟩
        · rw [if_pos (c := (2 * kWi (kk m c)).toInt64 ≤ aDraw (m.2 d 1) - aDraw (m.2 d 1) / 100 * 100) q3] at h; exact h
        · rw [if_neg (c := (2 * kWi (kk m c)).toInt64 ≤ aDraw (m.2 d 1) - aDraw (m.2 d 1) / 100 * 100) q3] at h; exact h
      · rw [if_pos q, if_neg q2, xb_id] at h; exact h
      · rw [if_neg q, xb_id] at h; exact h

def S77 (as : List Value) (m : xM) (Q : xQt) : Prop := match as with
  | [.ref c, .int b, .ref d] => (isC c) ∧ (vp_in b 6) ∧ (m.1 c 5 ≤ 12) ∧ (isD d) ∧ Q (none) (s6 (xb m d (vp_updL (m.2 d) 1 (aRide (kk m c) (g6 m c) b (m.1 d 0) (m.2 d 1)).2)) c (aRide (kk m c) (g6 m c) b (m.1 d 0) (m.2 d 1)).1)
  | _ => False
theorem s77 (c : Nat) (b : Int32) (d : Nat) (m : xM) (Q : xQt) : S77 [.ref c, .int b, .ref d] m Q = ((isC c) ∧ (vp_in b 6) ∧ (m.1 c 5 ≤ 12) ∧ (isD d) ∧ Q (none) (s6 (xb m d (vp_updL (m.2 d) 1 (aRide (kk m c) (g6 m c) b (m.1 d 0) (m.2 d 1)).2)) c (aRide (kk m c) (g6 m c) b (m.1 d 0) (m.2 d 1)).1)) := rfl
theorem t77 {G : xG} : ∀ as m Q, S77 as m Q → Tri G 77 as m Q := by
  intro as m Q h
  match as, h with
  | [.ref c, .int b, .ref d], h =>
    obtain ⟨hc, hb, hn, hd, h⟩ := h
    refine tri_vc (ls := [.ref c, .int b, .ref d, .null]) (by decide +kernel) rfl (Nat.le_of_ble_eq_true rfl) ?_
    refine vc_cut 63 [.ref c, .int b, .ref d, .null] (fun m1 => m1.1 c 5 ≤ 12 ∧ Q none (s6 m1 c (aBail (kk m1 c) (g6 m1 c) b))) (vc_wp (T := TT [(78, S78b), (68, S68b), (74, S74), (60, S60)]) (TTc t78b (TTc t68b (TTc t74 (TTc t60 TTn)))) (fun p => p == 63) (rt0 := none) rfl c77 rfl ?_) ?_
    · simp only [i77, wp_iinc, wpE0, wpE1, wpE2, wpE3, wpE4, wpE5, wpJ, okS, lt4S, popR, litS, Int32.reduceLT, Int32.reduceLE, List.getElem?_cons_zero, List.getElem?_cons_succ, Bool.false_eq_true, ↓reduceIte, Nat.reduceMod, Nat.reduceDiv, Nat.reduceAdd, Nat.reduceSub, Nat.reduceMul, Nat.reduceLeDiff, Nat.reduceEqDiff, Nat.reduceBEq, Int.reduceToNat, Int.reduceAdd, Int32.reduceOfInt, Int64.reduceOfInt, Int32.reduceToNatClampNeg, Int32.reduceOfNat, Bool.or_self, Bool.or_false, Bool.false_or, Bool.true_or, Bool.or_true, true_and, and_true, false_and, and_false, List.set_cons_zero, List.set_cons_succ, List.take_succ_cons, List.take_zero, List.drop_succ_cons, List.drop_zero, List.reverse_cons, List.reverse_nil, List.nil_append, List.cons_append, List.length_cons, List.length_nil, Option.toList_some, Option.toList_none, not_true_eq_false, not_false_eq_true, forall_const, true_implies, false_implies, nrw, TTS, s78b, s68b, s74, s60, shC hc, and01, isCl, kk_xa, kk_s6, kk_xb, g6_xa, g6_s6, g6_xb, s6_xa, s6_s6, xb_s6, xb_xa, s6S, xa_1, xa_2, xb_1, xb_2, Nat.add_left_cancel_iff, Nat.reduceEqDiff, i2lS, show ∀ j, (c = c + (j + 1)) = False from fun j => by simp, hc, hb, hn, hd, subS, not_true_eq_false, not_false_eq_true, and_true, true_and, and_false, false_and, and_self, or_true, true_or, or_false, false_or, ↓reduceIte, if_true, if_false, eq_self, hd, shD hd, cmpS, show (1 : Int32) ≤ 10 from by decide, true_and, and_true, or_false]
      unfold aRide at h
      refine ⟨fun q => ?_, fun q => ?_⟩
      · rw [if_pos q] at h
        refine ⟨fun q3 => ?_, fun q3 => ?_⟩
        · rw [if_pos (c := ((kWi (kk m c)).toInt64 + (aDraw (m.2 d 1) - aDraw (m.2 d 1) / 10 * 10)) * (kSa (kk m c) (ix b)).toInt64 ≤ (aIn (kk m c) (g6 m c) b + 5 * kBe (kk m c) (ix b) - xWa (g6 m c) (ix b)).toInt64) q3] at h; exact h
        · rw [if_neg (c := ((kWi (kk m c)).toInt64 + (aDraw (m.2 d 1) - aDraw (m.2 d 1) / 10 * 10)) * (kSa (kk m c) (ix b)).toInt64 ≤ (aIn (kk m c) (g6 m c) b + 5 * kBe (kk m c) (ix b) - xWa (g6 m c) (ix b)).toInt64) q3] at h; exact h
      · rw [if_neg q, xb_id] at h; exact h
    · rintro m1 ⟨hn1, h1⟩
      clear h hn
      refine vc_wp (T := TT [(78, S78b), (68, S68b), (74, S74), (60, S60)]) (TTc t78b (TTc t68b (TTc t74 (TTc t60 TTn)))) (fun _ => false) (rt0 := none) rfl (ckl_drop 40 c77) rfl ?_
      have hn := hn1
      simp only [List.drop, i77, wp_iinc, wpE0, wpE1, wpE2, wpE3, wpE4, wpE5, wpJ, okS, lt4S, popR, litS, Int32.reduceLT, Int32.reduceLE, List.getElem?_cons_zero, List.getElem?_cons_succ, Bool.false_eq_true, ↓reduceIte, Nat.reduceMod, Nat.reduceDiv, Nat.reduceAdd, Nat.reduceSub, Nat.reduceMul, Nat.reduceLeDiff, Nat.reduceEqDiff, Nat.reduceBEq, Int.reduceToNat, Int.reduceAdd, Int32.reduceOfInt, Int64.reduceOfInt, Int32.reduceToNatClampNeg, Int32.reduceOfNat, Bool.or_self, Bool.or_false, Bool.false_or, Bool.true_or, Bool.or_true, true_and, and_true, false_and, and_false, List.set_cons_zero, List.set_cons_succ, List.take_succ_cons, List.take_zero, List.drop_succ_cons, List.drop_zero, List.reverse_cons, List.reverse_nil, List.nil_append, List.cons_append, List.length_cons, List.length_nil, Option.toList_some, Option.toList_none, not_true_eq_false, not_false_eq_true, forall_const, true_implies, false_implies, nrw, TTS, s78b, s68b, s74, s60, shC hc, and01, isCl, kk_xa, kk_s6, kk_xb, g6_xa, g6_s6, g6_xb, s6_xa, s6_s6, xb_s6, xb_xa, s6S, xa_1, xa_2, xb_1, xb_2, Nat.add_left_cancel_iff, Nat.reduceEqDiff, i2lS, show ∀ j, (c = c + (j + 1)) = False from fun j => by simp, hc, hb, hn, hd, upd_at, not_true_eq_false, not_false_eq_true, and_true, true_and, and_false, false_and, and_self, or_true, true_or, or_false, false_or, ↓reduceIte, if_true, if_false, eq_self]
      unfold aBail at h1
      refine ⟨fun q => ?_, fun q => ?_⟩
      · rw [if_pos (c := xHo (g6 m1 c) (ix b) = 4) q] at h1
        refine ⟨fun q2 => ?_, fun q2 => ?_⟩
        · rw [if_pos (c := aBailW (kk m1 c) (g6 m1 c) b = 0) q2] at h1
          refine q_eq h1 ?_
          refine s6_eq ?_ ?_ ?_ ?_ ?_ ?_ ?_ ?_ <;> (try intros) <;> first | rfl | (simp only [g6, xa_1, Nat.add_left_cancel_iff, Nat.reduceEqDiff, not_true_eq_false, not_false_eq_true, and_true, true_and, and_false, false_and, and_self, or_true, true_or, or_false, false_or, ↓reduceIte, if_true, if_false, eq_self, ne_eq, *]; done) | (simp only [g6, xa_1, Nat.add_left_cancel_iff, Nat.reduceEqDiff, not_true_eq_false, not_false_eq_true, and_true, true_and, and_false, false_and, and_self, or_true, true_or, or_false, false_or, ↓reduceIte, if_true, if_false, eq_self, ne_eq]; rfl)
        · rw [if_neg (c := aBailW (kk m1 c) (g6 m1 c) b = 0) q2] at h1
          refine q_eq h1 ?_
          refine s6_eq ?_ ?_ ?_ ?_ ?_ ?_ ?_ ?_ <;> (try intros) <;> first | rfl | (simp only [g6, xa_1, Nat.add_left_cancel_iff, Nat.reduceEqDiff, not_true_eq_false, not_false_eq_true, and_true, true_and, and_false, false_and, and_self, or_true, true_or, or_false, false_or, ↓reduceIte, if_true, if_false, eq_self, ne_eq, *]; done) | (simp only [g6, xa_1, Nat.add_left_cancel_iff, Nat.reduceEqDiff, not_true_eq_false, not_false_eq_true, and_true, true_and, and_false, false_and, and_self, or_true, true_or, or_false, false_or, ↓reduceIte, if_true, if_false, eq_self, ne_eq]; rfl)
      · rw [if_neg (c := xHo (g6 m1 c) (ix b) = 4) q, s6_g6] at h1
        exact h1
end
section
def S66 (as : List Value) (m : xM) (Q : xQt) : Prop := match as with
  | [.ref c, .int b, .ref d] => (isC c) ∧ (vp_in b 6) ∧ (m.1 c 5 ≤ 12) ∧ (isD d) ∧ Q (none) (s6 (xb m d (vp_updL (m.2 d) 1 (aTick (kk m c) (g6 m c) b (m.1 d 0) (m.2 d 1)).2)) c (aTick (kk m c) (g6 m c) b (m.1 d 0) (m.2 d 1)).1)
  | _ => False
theorem s66 (c : Nat) (b : Int32) (d : Nat) (m : xM) (Q : xQt) : S66 [.ref c, .int b, .ref d] m Q = ((isC c) ∧ (vp_in b 6) ∧ (m.1 c 5 ≤ 12) ∧ (isD d) ∧ Q (none) (s6 (xb m d (vp_updL (m.2 d) 1 (aTick (kk m c) (g6 m c) b (m.1 d 0) (m.2 d 1)).2)) c (aTick (kk m c) (g6 m c) b (m.1 d 0) (m.2 d 1)).1)) := rfl
theorem t66 {G : xG} : ∀ as m Q, S66 as m Q → Tri G 66 as m Q := by
  intro as m Q h
  match as, h with
  | [.ref c, .int b, .ref d], h =>
    obtain ⟨hc, hb, hn, hd, h⟩ := h
    refine tri_wp (T := TT [(67, S67), (70, S70), (73, S73), (75, S75), (77, S77), (80, S80b)]) (ls := [.ref c, .int b, .ref d, .null, .null]) (TTc t67 (TTc t70 (TTc t73 (TTc t75 (TTc t77 (TTc t80b TTn)))))) c66 (by decide +kernel) (rt0 := none) rfl rfl (Nat.le_of_ble_eq_true rfl) rfl ?_
    simp only [i66, wp_iinc, wpE0, wpE1, wpE2, wpE3, wpE4, wpE5, wpJ, okS, lt4S, popR, litS, Int32.reduceLT, Int32.reduceLE, List.getElem?_cons_zero, List.getElem?_cons_succ, Bool.false_eq_true, ↓reduceIte, Nat.reduceMod, Nat.reduceDiv, Nat.reduceAdd, Nat.reduceSub, Nat.reduceMul, Nat.reduceLeDiff, Nat.reduceEqDiff, Nat.reduceBEq, Int.reduceToNat, Int.reduceAdd, Int32.reduceOfInt, Int64.reduceOfInt, Int32.reduceToNatClampNeg, Int32.reduceOfNat, Bool.or_self, Bool.or_false, Bool.false_or, Bool.true_or, Bool.or_true, true_and, and_true, false_and, and_false, List.set_cons_zero, List.set_cons_succ, List.take_succ_cons, List.take_zero, List.drop_succ_cons, List.drop_zero, List.reverse_cons, List.reverse_nil, List.nil_append, List.cons_append, List.length_cons, List.length_nil, Option.toList_some, Option.toList_none, not_true_eq_false, not_false_eq_true, forall_const, true_implies, false_implies, nrw, TTS, s67, s70, s73, s75, s77, s80b, shC hc, and01, isCl, Int32.reduceOfInt, Int.reduceAdd, kk_xa, kk_s6, kk_xb, g6_xa, g6_s6, g6_xb, s6_xa, s6_s6, xb_s6, xb_xa, s6S, xa_1, xa_2, xb_1, xb_2, Nat.add_left_cancel_iff, Nat.reduceEqDiff, i2lS, show ∀ j, (c = c + (j + 1)) = False from fun j => by simp, hc, hb, hn, hd]
    unfold aTick aT1 at h
    refine ⟨fun q1 => ?_, fun q1 => ⟨fun q2 => ?_, fun q2 => ⟨fun q3 => ?_, fun q3 => ?_⟩⟩⟩
    · rw [if_pos (c := xHo (g6 m c) (ix b) = 1) q1] at h
      refine ⟨fun z => ?_, fun z => ?_⟩
      · rw [if_pos z] at h
        simp only [xb_id] at h
        exact h
      · rw [if_neg z] at h
        exact h
    · rw [if_neg (c := xHo (g6 m c) (ix b) = 1) q1, if_pos (c := xHo (g6 m c) (ix b) = 2) q2] at h
      refine ⟨fun z => ?_, fun z => ?_⟩
      · rw [if_pos z] at h
        simp only [xb_id] at h
        exact h
      · rw [if_neg z] at h
        simp only [xb_id] at h
        exact h
    · rw [if_neg (c := xHo (g6 m c) (ix b) = 1) q1, if_neg (c := xHo (g6 m c) (ix b) = 2) q2, if_pos (c := xHo (g6 m c) (ix b) = 3) q3] at h
      simp only [xb_id] at h
      refine ⟨fun z => ?_, fun z => ?_⟩
      · rw [if_pos z] at h
        exact h
      · rw [if_neg z] at h
        exact h
    · rw [if_neg (c := xHo (g6 m c) (ix b) = 1) q1, if_neg (c := xHo (g6 m c) (ix b) = 2) q2, if_neg (c := xHo (g6 m c) (ix b) = 3) q3] at h
      exact h

/-- a tick of the first n boats -/
def aBoats (k : KK) (s : Int32) : Nat → X6 × Int64 → X6 × Int64
  | 0, p => p
  | n + 1, p => aTick k (aBoats k s n p).1 (nI n) s (aBoats k s n p).2
/-- the memory with a club's six rows and a draw's X -/
def sX (m : xM) (c d : Nat) (p : X6 × Int64) : xM := s6 (xb m d (vp_updL (m.2 d) 1 p.2)) c p.1
theorem xb_xb (m : xM) (d : Nat) (f g : Nat → Int64) : xb (xb m d f) d g = xb m d g := by
  refine Prod.ext rfl (funext fun q => ?_)
  show (if q = d then g else if q = d then f else m.2 q) = if q = d then g else m.2 q
  by_cases h : q = d <;> simp [h]
theorem updL_updL (f : Nat → Int64) (j : Nat) (x y : Int64) : vp_updL (vp_updL f j x) j y = vp_updL f j y := by
  funext i
  simp only [vp_updL]
  by_cases h : i = j <;> simp [h]
theorem updL_at (f : Nat → Int64) (j : Nat) (x : Int64) : vp_updL f j x j = x := by simp [vp_updL]
theorem sXS (m : xM) (c d : Nat) (p : X6 × Int64) : kk (sX m c d p) c = kk m c ∧ g6 (sX m c d p) c = p.1 ∧ (sX m c d p).2 d 1 = p.2 ∧ (sX m c d p).1 c = m.1 c := by
  refine ⟨?_, ?_, ?_, ?_⟩
  · simp only [sX, kk_s6, kk_xb]
  · simp only [sX, g6_s6]
  · simp only [sX, s6S, xb_2, if_pos]; exact updL_at _ _ _
  · simp only [sX, s6S, xb_1]
theorem sX_sX (m : xM) (c d : Nat) (p q : X6 × Int64) : sX (sX m c d p) c d q = sX m c d q := by
  simp only [sX, xb_s6, s6_s6, xb_xb, s6S, xb_2, if_pos, updL_updL]
theorem sX_id (m : xM) (c d : Nat) : sX m c d (g6 m c, m.2 d 1) = m := by simp only [sX, xb_id, s6_g6]
theorem sX_d {m : xM} {c d : Nat} {p : X6 × Int64} (hc : isC c) (hd : isD d) : (sX m c d p).1 d = m.1 d := by rw [sX, s6D hc hd, xb_1]

def S66b (as : List Value) (m : xM) (Q : xQt) : Prop := match as with
  | [.ref c, .int b, .ref d] => (isC c) ∧ (vp_in b 6) ∧ (m.1 c 5 ≤ 12) ∧ (isD d) ∧ Q (none) (sX m c d (aTick (kk m c) (g6 m c) b (m.1 d 0) (m.2 d 1)))
  | _ => False
theorem s66b (c : Nat) (b : Int32) (d : Nat) (m : xM) (Q : xQt) : S66b [.ref c, .int b, .ref d] m Q = ((isC c) ∧ (vp_in b 6) ∧ (m.1 c 5 ≤ 12) ∧ (isD d) ∧ Q (none) (sX m c d (aTick (kk m c) (g6 m c) b (m.1 d 0) (m.2 d 1)))) := rfl
theorem t66b {G : xG} : ∀ as m Q, S66b as m Q → Tri G 66 as m Q := by
  intro as m Q h
  match as, h with
  | [.ref c, .int b, .ref d], h =>
    obtain ⟨hc, hb, hn, hd, h⟩ := h
    exact t66 [.ref c, .int b, .ref d] m Q ⟨hc, hb, hn, hd, by exact h⟩

def S65 (as : List Value) (m : xM) (Q : xQt) : Prop := match as with
  | [.ref c, .ref d] => (isC c) ∧ (m.1 c 5 ≤ 12) ∧ (isD d) ∧ (m.1 c 4 ≤ 6) ∧ Q (none) (xa (sX m c d (aBoats (kk m c) (m.1 d 0) (ix (m.1 c 4)) (g6 m c, m.2 d 1))) c (upd (m.1 c) 3 (m.1 c 3 + 1)))
  | _ => False
theorem s65 (c : Nat) (d : Nat) (m : xM) (Q : xQt) : S65 [.ref c, .ref d] m Q = ((isC c) ∧ (m.1 c 5 ≤ 12) ∧ (isD d) ∧ (m.1 c 4 ≤ 6) ∧ Q (none) (xa (sX m c d (aBoats (kk m c) (m.1 d 0) (ix (m.1 c 4)) (g6 m c, m.2 d 1))) c (upd (m.1 c) 3 (m.1 c 3 + 1)))) := rfl
theorem t65 {G : xG} : ∀ as m Q, S65 as m Q → Tri G 65 as m Q := by
  intro as m Q h
  match as, h with
  | [.ref c, .ref d], h =>
    obtain ⟨hc, hn, hd, hB, h⟩ := h
    refine tri_vc (ls := [.ref c, .ref d, .null]) (by decide +kernel) rfl (Nat.le_of_ble_eq_true rfl) ?_
    refine vc_seq (pc1 := 2) (ls1 := [.ref c, .ref d, .int 0]) (m1 := m) (vc_wp (T := TT [(66, S66b)]) (TTc t66b TTn) (fun p => p == 2) (rt0 := none) rfl c65 rfl ?_) ?_
    · simp only [i65, wp_iinc, wpE0, wpE1, wpE2, wpE3, wpE4, wpE5, wpJ, okS, lt4S, popR, litS, Int32.reduceLT, Int32.reduceLE, List.getElem?_cons_zero, List.getElem?_cons_succ, Bool.false_eq_true, ↓reduceIte, Nat.reduceMod, Nat.reduceDiv, Nat.reduceAdd, Nat.reduceSub, Nat.reduceMul, Nat.reduceLeDiff, Nat.reduceEqDiff, Nat.reduceBEq, Int.reduceToNat, Int.reduceAdd, Int32.reduceOfInt, Int64.reduceOfInt, Int32.reduceToNatClampNeg, Int32.reduceOfNat, Bool.or_self, Bool.or_false, Bool.false_or, Bool.true_or, Bool.or_true, true_and, and_true, false_and, and_false, List.set_cons_zero, List.set_cons_succ, List.take_succ_cons, List.take_zero, List.drop_succ_cons, List.drop_zero, List.reverse_cons, List.reverse_nil, List.nil_append, List.cons_append, List.length_cons, List.length_nil, Option.toList_some, Option.toList_none, not_true_eq_false, not_false_eq_true, forall_const, true_implies, false_implies, nrw, TTS, s66b, shC hc, and01, isCl, sXS, hc, hn, hd, hB, subS, true_and, and_true, true_or, or_false]
    have e0 : VC G 65 Q (fun _ _ _ _ => False) 2 ((fun i => [.ref c, .ref d, .int (nI i)]) 0) [] ((fun i => sX m c d (aBoats (kk m c) (m.1 d 0) i (g6 m c, m.2 d 1))) 0) := by
      refine vc_for (ix (m.1 c 4)) (fun i => [.ref c, .ref d, .int (nI i)]) (fun i => sX m c d (aBoats (kk m c) (m.1 d 0) i (g6 m c, m.2 d 1))) (fun i hi => ?_) ?_
      · refine vc_wp (T := TT [(66, S66b)]) (TTc t66b TTn) (fun _ => false) (rt0 := none) rfl (ckl_drop 2 c65) rfl ?_
        have hi2 : ¬ ix (m.1 c 4) ≤ i := by omega
        have hi12 : i < 6 := by have := ix_max (k := 6) hB (by decide); omega
        have hi3 : vp_in (nI i) 6 := xin_nI hi12 (by omega)
        simp only [List.drop, i65, wp_iinc, wpE0, wpE1, wpE2, wpE3, wpE4, wpE5, wpJ, okS, lt4S, popR, litS, Int32.reduceLT, Int32.reduceLE, List.getElem?_cons_zero, List.getElem?_cons_succ, Bool.false_eq_true, ↓reduceIte, Nat.reduceMod, Nat.reduceDiv, Nat.reduceAdd, Nat.reduceSub, Nat.reduceMul, Nat.reduceLeDiff, Nat.reduceEqDiff, Nat.reduceBEq, Int.reduceToNat, Int.reduceAdd, Int32.reduceOfInt, Int64.reduceOfInt, Int32.reduceToNatClampNeg, Int32.reduceOfNat, Bool.or_self, Bool.or_false, Bool.false_or, Bool.true_or, Bool.or_true, true_and, and_true, false_and, and_false, List.set_cons_zero, List.set_cons_succ, List.take_succ_cons, List.take_zero, List.drop_succ_cons, List.drop_zero, List.reverse_cons, List.reverse_nil, List.nil_append, List.cons_append, List.length_cons, List.length_nil, Option.toList_some, Option.toList_none, not_true_eq_false, not_false_eq_true, forall_const, true_implies, false_implies, nrw, TTS, s66b, shC hc, and01, isCl, sXS, hc, hn, hd, hB, subS, sX_sX, sX_d hc hd, ix_le _ (show i < 2 ^ 31 by omega), hi2, hi3, not_true_eq_false, not_false_eq_true, and_true, true_and, and_false, false_and, and_self, or_true, true_or, or_false, false_or, ↓reduceIte, if_true, if_false, eq_self, nI_1, aBoats]
      · refine vc_wp (T := TT [(66, S66b)]) (TTc t66b TTn) (fun _ => false) (rt0 := none) rfl (ckl_drop 2 c65) rfl ?_
        have hi2 : ix (m.1 c 4) ≤ ix (m.1 c 4) := Nat.le_refl _
        have hi12 : ix (m.1 c 4) < 2 ^ 31 := by have := ix_max (k := 6) hB (by decide); omega
        simp only [List.drop, i65, wp_iinc, wpE0, wpE1, wpE2, wpE3, wpE4, wpE5, wpJ, okS, lt4S, popR, litS, Int32.reduceLT, Int32.reduceLE, List.getElem?_cons_zero, List.getElem?_cons_succ, Bool.false_eq_true, ↓reduceIte, Nat.reduceMod, Nat.reduceDiv, Nat.reduceAdd, Nat.reduceSub, Nat.reduceMul, Nat.reduceLeDiff, Nat.reduceEqDiff, Nat.reduceBEq, Int.reduceToNat, Int.reduceAdd, Int32.reduceOfInt, Int64.reduceOfInt, Int32.reduceToNatClampNeg, Int32.reduceOfNat, Bool.or_self, Bool.or_false, Bool.false_or, Bool.true_or, Bool.or_true, true_and, and_true, false_and, and_false, List.set_cons_zero, List.set_cons_succ, List.take_succ_cons, List.take_zero, List.drop_succ_cons, List.drop_zero, List.reverse_cons, List.reverse_nil, List.nil_append, List.cons_append, List.length_cons, List.length_nil, Option.toList_some, Option.toList_none, not_true_eq_false, not_false_eq_true, forall_const, true_implies, false_implies, nrw, TTS, s66b, shC hc, and01, isCl, sXS, hc, hn, hd, hB, subS, ix_le _ hi12, hi2, not_true_eq_false, not_false_eq_true, and_true, true_and, and_false, false_and, and_self, or_true, true_or, or_false, false_or, ↓reduceIte, if_true, if_false, eq_self]
        exact h
    simp only [aBoats, sX_id] at e0
    exact e0
end
section
theorem linS : (∀ x : Nat, (0 : Int32) + nI x = nI (0 + x)) ∧ (∀ x : Nat, nI x + (0 : Int32) = nI (x + 0)) ∧ (∀ x : Nat, (0 : Int32) * nI x = nI (0 * x)) ∧ (∀ x : Nat, nI x * (0 : Int32) = nI (x * 0)) ∧ (∀ x : Nat, (1 : Int32) + nI x = nI (1 + x)) ∧ (∀ x : Nat, nI x + (1 : Int32) = nI (x + 1)) ∧ (∀ x : Nat, (1 : Int32) * nI x = nI (1 * x)) ∧ (∀ x : Nat, nI x * (1 : Int32) = nI (x * 1)) ∧ (∀ x : Nat, (2 : Int32) + nI x = nI (2 + x)) ∧ (∀ x : Nat, nI x + (2 : Int32) = nI (x + 2)) ∧ (∀ x : Nat, (2 : Int32) * nI x = nI (2 * x)) ∧ (∀ x : Nat, nI x * (2 : Int32) = nI (x * 2)) ∧ (∀ x : Nat, (3 : Int32) + nI x = nI (3 + x)) ∧ (∀ x : Nat, nI x + (3 : Int32) = nI (x + 3)) ∧ (∀ x : Nat, (3 : Int32) * nI x = nI (3 * x)) ∧ (∀ x : Nat, nI x * (3 : Int32) = nI (x * 3)) ∧ (∀ x : Nat, (4 : Int32) + nI x = nI (4 + x)) ∧ (∀ x : Nat, nI x + (4 : Int32) = nI (x + 4)) ∧ (∀ x : Nat, (4 : Int32) * nI x = nI (4 * x)) ∧ (∀ x : Nat, nI x * (4 : Int32) = nI (x * 4)) ∧ (∀ x : Nat, (5 : Int32) + nI x = nI (5 + x)) ∧ (∀ x : Nat, nI x + (5 : Int32) = nI (x + 5)) ∧ (∀ x : Nat, (5 : Int32) * nI x = nI (5 * x)) ∧ (∀ x : Nat, nI x * (5 : Int32) = nI (x * 5)) ∧ (∀ x : Nat, (6 : Int32) + nI x = nI (6 + x)) ∧ (∀ x : Nat, nI x + (6 : Int32) = nI (x + 6)) ∧ (∀ x : Nat, (6 : Int32) * nI x = nI (6 * x)) ∧ (∀ x : Nat, nI x * (6 : Int32) = nI (x * 6)) ∧ (∀ x : Nat, (8 : Int32) + nI x = nI (8 + x)) ∧ (∀ x : Nat, nI x + (8 : Int32) = nI (x + 8)) ∧ (∀ x : Nat, (8 : Int32) * nI x = nI (8 * x)) ∧ (∀ x : Nat, nI x * (8 : Int32) = nI (x * 8)) ∧ (∀ x : Nat, (10 : Int32) + nI x = nI (10 + x)) ∧ (∀ x : Nat, nI x + (10 : Int32) = nI (x + 10)) ∧ (∀ x : Nat, (10 : Int32) * nI x = nI (10 * x)) ∧ (∀ x : Nat, nI x * (10 : Int32) = nI (x * 10)) ∧ (∀ x : Nat, (16 : Int32) + nI x = nI (16 + x)) ∧ (∀ x : Nat, nI x + (16 : Int32) = nI (x + 16)) ∧ (∀ x : Nat, (16 : Int32) * nI x = nI (16 * x)) ∧ (∀ x : Nat, nI x * (16 : Int32) = nI (x * 16)) ∧ (∀ x : Nat, (20 : Int32) + nI x = nI (20 + x)) ∧ (∀ x : Nat, nI x + (20 : Int32) = nI (x + 20)) ∧ (∀ x : Nat, (20 : Int32) * nI x = nI (20 * x)) ∧ (∀ x : Nat, nI x * (20 : Int32) = nI (x * 20)) ∧ (∀ x : Nat, (24 : Int32) + nI x = nI (24 + x)) ∧ (∀ x : Nat, nI x + (24 : Int32) = nI (x + 24)) ∧ (∀ x : Nat, (24 : Int32) * nI x = nI (24 * x)) ∧ (∀ x : Nat, nI x * (24 : Int32) = nI (x * 24)) ∧ (∀ x : Nat, (27 : Int32) + nI x = nI (27 + x)) ∧ (∀ x : Nat, nI x + (27 : Int32) = nI (x + 27)) ∧ (∀ x : Nat, (27 : Int32) * nI x = nI (27 * x)) ∧ (∀ x : Nat, nI x * (27 : Int32) = nI (x * 27)) ∧ (∀ x : Nat, (29 : Int32) + nI x = nI (29 + x)) ∧ (∀ x : Nat, nI x + (29 : Int32) = nI (x + 29)) ∧ (∀ x : Nat, (29 : Int32) * nI x = nI (29 * x)) ∧ (∀ x : Nat, nI x * (29 : Int32) = nI (x * 29)) ∧ (∀ x : Nat, (40 : Int32) + nI x = nI (40 + x)) ∧ (∀ x : Nat, nI x + (40 : Int32) = nI (x + 40)) ∧ (∀ x : Nat, (40 : Int32) * nI x = nI (40 * x)) ∧ (∀ x : Nat, nI x * (40 : Int32) = nI (x * 40)) ∧ (∀ x : Nat, (49 : Int32) + nI x = nI (49 + x)) ∧ (∀ x : Nat, nI x + (49 : Int32) = nI (x + 49)) ∧ (∀ x : Nat, (49 : Int32) * nI x = nI (49 * x)) ∧ (∀ x : Nat, nI x * (49 : Int32) = nI (x * 49)) ∧ (∀ x : Nat, (65 : Int32) + nI x = nI (65 + x)) ∧ (∀ x : Nat, nI x + (65 : Int32) = nI (x + 65)) ∧ (∀ x : Nat, (65 : Int32) * nI x = nI (65 * x)) ∧ (∀ x : Nat, nI x * (65 : Int32) = nI (x * 65)) := ⟨fun x => nI_add 0 x, fun x => nI_add x 0, fun x => pk_mul 0 x, fun x => pk_mul x 0, fun x => nI_add 1 x, fun x => nI_add x 1, fun x => pk_mul 1 x, fun x => pk_mul x 1, fun x => nI_add 2 x, fun x => nI_add x 2, fun x => pk_mul 2 x, fun x => pk_mul x 2, fun x => nI_add 3 x, fun x => nI_add x 3, fun x => pk_mul 3 x, fun x => pk_mul x 3, fun x => nI_add 4 x, fun x => nI_add x 4, fun x => pk_mul 4 x, fun x => pk_mul x 4, fun x => nI_add 5 x, fun x => nI_add x 5, fun x => pk_mul 5 x, fun x => pk_mul x 5, fun x => nI_add 6 x, fun x => nI_add x 6, fun x => pk_mul 6 x, fun x => pk_mul x 6, fun x => nI_add 8 x, fun x => nI_add x 8, fun x => pk_mul 8 x, fun x => pk_mul x 8, fun x => nI_add 10 x, fun x => nI_add x 10, fun x => pk_mul 10 x, fun x => pk_mul x 10, fun x => nI_add 16 x, fun x => nI_add x 16, fun x => pk_mul 16 x, fun x => pk_mul x 16, fun x => nI_add 20 x, fun x => nI_add x 20, fun x => pk_mul 20 x, fun x => pk_mul x 20, fun x => nI_add 24 x, fun x => nI_add x 24, fun x => pk_mul 24 x, fun x => pk_mul x 24, fun x => nI_add 27 x, fun x => nI_add x 27, fun x => pk_mul 27 x, fun x => pk_mul x 27, fun x => nI_add 29 x, fun x => nI_add x 29, fun x => pk_mul 29 x, fun x => pk_mul x 29, fun x => nI_add 40 x, fun x => nI_add x 40, fun x => pk_mul 40 x, fun x => pk_mul x 40, fun x => nI_add 49 x, fun x => nI_add x 49, fun x => pk_mul 49 x, fun x => pk_mul x 49, fun x => nI_add 65 x, fun x => nI_add x 65, fun x => pk_mul 65 x, fun x => pk_mul x 65⟩
theorem clN {e : Nat} (h : e < 2147483648) : (nI e).toNatClampNeg = e := nI_clamp h
theorem inN {e n : Nat} (h : e < n) (hn : n ≤ 1000) : vp_in (nI e) n = True := eq_true (vp_in_nI h (by omega))
theorem inLS : (∀ {n : Nat}, 0 < n → n ≤ 1000 → vp_in (0 : Int32) n = True) ∧ (∀ {n : Nat}, 1 < n → n ≤ 1000 → vp_in (1 : Int32) n = True) ∧ (∀ {n : Nat}, 2 < n → n ≤ 1000 → vp_in (2 : Int32) n = True) ∧ (∀ {n : Nat}, 3 < n → n ≤ 1000 → vp_in (3 : Int32) n = True) ∧ (∀ {n : Nat}, 4 < n → n ≤ 1000 → vp_in (4 : Int32) n = True) ∧ (∀ {n : Nat}, 5 < n → n ≤ 1000 → vp_in (5 : Int32) n = True) ∧ (∀ {n : Nat}, 6 < n → n ≤ 1000 → vp_in (6 : Int32) n = True) := ⟨fun h hn => eq_true (vp_in_nI (n := 0) h (by omega)), fun h hn => eq_true (vp_in_nI (n := 1) h (by omega)), fun h hn => eq_true (vp_in_nI (n := 2) h (by omega)), fun h hn => eq_true (vp_in_nI (n := 3) h (by omega)), fun h hn => eq_true (vp_in_nI (n := 4) h (by omega)), fun h hn => eq_true (vp_in_nI (n := 5) h (by omega)), fun h hn => eq_true (vp_in_nI (n := 6) h (by omega))⟩

def S174 (as : List Value) (m : xM) (Q : xQt) : Prop := match as with
  | [.ref o, .int a, .int w] => wp (fun _ _ _ _ => False) (fun _ => false) Q (some .int) (TT []) none i174 [.ref o, .int a, .int w] [] m
  | _ => False
theorem s174 (o : Nat) (a : Int32) (w : Int32) (m : xM) (Q : xQt) : S174 [.ref o, .int a, .int w] m Q = wp (fun _ _ _ _ => False) (fun _ => false) Q (some .int) (TT []) none i174 [.ref o, .int a, .int w] [] m := rfl
theorem t174 {G : xG} : ∀ as m Q, S174 as m Q → Tri G 174 as m Q := by
  intro as m Q h
  match as, h with
  | [.ref o, .int a, .int w], h => exact tri_wp (T := TT []) (ls := [.ref o, .int a, .int w]) TTn c174 (by decide +kernel) (rt0 := some .int) rfl rfl (Nat.le_of_ble_eq_true rfl) rfl h

def S186 (as : List Value) (m : xM) (Q : xQt) : Prop := match as with
  | [.ref o, .int a, .int w] => wp (fun _ _ _ _ => False) (fun _ => false) Q (some .int) (TT []) none i186 [.ref o, .int a, .int w] [] m
  | _ => False
theorem s186 (o : Nat) (a : Int32) (w : Int32) (m : xM) (Q : xQt) : S186 [.ref o, .int a, .int w] m Q = wp (fun _ _ _ _ => False) (fun _ => false) Q (some .int) (TT []) none i186 [.ref o, .int a, .int w] [] m := rfl
theorem t186 {G : xG} : ∀ as m Q, S186 as m Q → Tri G 186 as m Q := by
  intro as m Q h
  match as, h with
  | [.ref o, .int a, .int w], h => exact tri_wp (T := TT []) (ls := [.ref o, .int a, .int w]) TTn c186 (by decide +kernel) (rt0 := some .int) rfl rfl (Nat.le_of_ble_eq_true rfl) rfl h

def S173 (as : List Value) (m : xM) (Q : xQt) : Prop := match as with
  | [.ref r, .int a] => wp (fun _ _ _ _ => False) (fun _ => false) Q (some .boolean) (TT []) none i173 [.ref r, .int a] [] m
  | _ => False
theorem s173 (r : Nat) (a : Int32) (m : xM) (Q : xQt) : S173 [.ref r, .int a] m Q = wp (fun _ _ _ _ => False) (fun _ => false) Q (some .boolean) (TT []) none i173 [.ref r, .int a] [] m := rfl
theorem t173 {G : xG} : ∀ as m Q, S173 as m Q → Tri G 173 as m Q := by
  intro as m Q h
  match as, h with
  | [.ref r, .int a], h => exact tri_wp (T := TT []) (ls := [.ref r, .int a]) TTn c173 (by decide +kernel) (rt0 := some .boolean) rfl rfl (Nat.le_of_ble_eq_true rfl) rfl h

def S181 (as : List Value) (m : xM) (Q : xQt) : Prop := match as with
  | [.ref r, .int a] => wp (fun _ _ _ _ => False) (fun _ => false) Q (some .int) (TT []) none i181 [.ref r, .int a] [] m
  | _ => False
theorem s181 (r : Nat) (a : Int32) (m : xM) (Q : xQt) : S181 [.ref r, .int a] m Q = wp (fun _ _ _ _ => False) (fun _ => false) Q (some .int) (TT []) none i181 [.ref r, .int a] [] m := rfl
theorem t181 {G : xG} : ∀ as m Q, S181 as m Q → Tri G 181 as m Q := by
  intro as m Q h
  match as, h with
  | [.ref r, .int a], h => exact tri_wp (T := TT []) (ls := [.ref r, .int a]) TTn c181 (by decide +kernel) (rt0 := some .int) rfl rfl (Nat.le_of_ble_eq_true rfl) rfl h

def S180 (as : List Value) (m : xM) (Q : xQt) : Prop := match as with
  | [.ref o, .int a, .int b] => wp (fun _ _ _ _ => False) (fun _ => false) Q (some .boolean) (TT [(174, S174)]) none i180 [.ref o, .int a, .int b] [] m
  | _ => False
theorem s180 (o : Nat) (a : Int32) (b : Int32) (m : xM) (Q : xQt) : S180 [.ref o, .int a, .int b] m Q = wp (fun _ _ _ _ => False) (fun _ => false) Q (some .boolean) (TT [(174, S174)]) none i180 [.ref o, .int a, .int b] [] m := rfl
theorem t180 {G : xG} : ∀ as m Q, S180 as m Q → Tri G 180 as m Q := by
  intro as m Q h
  match as, h with
  | [.ref o, .int a, .int b], h => exact tri_wp (T := TT [(174, S174)]) (ls := [.ref o, .int a, .int b]) (TTc t174 TTn) c180 (by decide +kernel) (rt0 := some .boolean) rfl rfl (Nat.le_of_ble_eq_true rfl) rfl h

def S196 (as : List Value) (m : xM) (Q : xQt) : Prop := match as with
  | [.ref o, .int a] => wp (fun _ _ _ _ => False) (fun _ => false) Q (some .int) (TT [(174, S174)]) none i196 [.ref o, .int a, .null] [] m
  | _ => False
theorem s196 (o : Nat) (a : Int32) (m : xM) (Q : xQt) : S196 [.ref o, .int a] m Q = wp (fun _ _ _ _ => False) (fun _ => false) Q (some .int) (TT [(174, S174)]) none i196 [.ref o, .int a, .null] [] m := rfl
theorem t196 {G : xG} : ∀ as m Q, S196 as m Q → Tri G 196 as m Q := by
  intro as m Q h
  match as, h with
  | [.ref o, .int a], h => exact tri_wp (T := TT [(174, S174)]) (ls := [.ref o, .int a, .null]) (TTc t174 TTn) c196 (by decide +kernel) (rt0 := some .int) rfl rfl (Nat.le_of_ble_eq_true rfl) rfl h

/-- whether one of the first n is so -/
def anB (p : Nat → Bool) : Nat → Int32
  | 0 => 0
  | n + 1 => if anB p n = 0 then (if p n = true then 1 else 0) else 1
theorem anB_01 (p : Nat → Bool) : ∀ n, anB p n = 0 ∨ anB p n = 1
  | 0 => Or.inl rfl
  | n + 1 => by
    unfold anB
    split
    · split
      · exact Or.inr rfl
      · exact Or.inl rfl
    · exact Or.inr rfl
theorem anB_1 (p : Nat → Bool) (n : Nat) : anB p n &&& 1 = anB p n := by
  rcases anB_01 p n with h | h <;> rw [h] <;> decide
theorem anB_ex (p : Nat → Bool) : ∀ n, (anB p n = 0) ↔ ¬ ∃ h, h < n ∧ p h = true
  | 0 => by simp [anB]
  | n + 1 => by
    have ih := anB_ex p n
    unfold anB
    by_cases h0 : anB p n = 0
    · rw [if_pos h0]
      have h1 := ih.mp h0
      by_cases hp : p n = true
      · rw [if_pos hp]
        refine ⟨fun q => absurd q (by decide), fun q => absurd ⟨n, by omega, hp⟩ q⟩
      · rw [if_neg hp]
        refine ⟨fun _ ⟨h, h2, h3⟩ => ?_, fun _ => rfl⟩
        by_cases e : h = n
        · rw [e] at h3; exact hp h3
        · exact h1 ⟨h, by omega, h3⟩
    · rw [if_neg h0]
      refine ⟨fun q => absurd q (by decide), fun q => absurd (ih.mpr fun ⟨h, h2, h3⟩ => q ⟨h, by omega, h3⟩) h0⟩

def S187 (as : List Value) (m : xM) (Q : xQt) : Prop := match as with
  | [.ref o, .ref r, .int b] => (o = 86) ∧ (isR r) ∧ (m.1 90 4 ≤ 12) ∧ Q (some (.int (fd (fun h => if m.1 90 (29 + 3 * h + 0) = b ∧ m.1 r (24 + 2 * h) = 0 then m.1 90 (29 + 3 * h + 1) else 0) (ix (m.1 90 4))))) (m)
  | _ => False
theorem s187 (o : Nat) (r : Nat) (b : Int32) (m : xM) (Q : xQt) : S187 [.ref o, .ref r, .int b] m Q = ((o = 86) ∧ (isR r) ∧ (m.1 90 4 ≤ 12) ∧ Q (some (.int (fd (fun h => if m.1 90 (29 + 3 * h + 0) = b ∧ m.1 r (24 + 2 * h) = 0 then m.1 90 (29 + 3 * h + 1) else 0) (ix (m.1 90 4))))) (m)) := rfl
theorem t187 {G : xG} : ∀ as m Q, S187 as m Q → Tri G 187 as m Q := by
  intro as m Q h
  match as, h with
  | [.ref o, .ref r, .int b], h =>
    obtain ⟨rfl, hr, hn, h⟩ := h
    refine tri_vc (ls := [.ref 86, .ref r, .int b, .null, .null]) (by decide +kernel) rfl (Nat.le_of_ble_eq_true rfl) ?_
    refine vc_seq (pc1 := 5) (ls1 := [.ref 86, .ref r, .int b, .int 0, .int 0]) (m1 := m) (vc_wp (T := TT [(180, S180), (181, S181), (174, S174)]) (TTc t180 (TTc t181 (TTc t174 TTn))) (fun p => p == 5) (rt0 := some .int) rfl c187 rfl ?_) ?_
    · simp only [i187, wp_iinc, wpE0, wpE1, wpE2, wpE3, wpE4, wpE5, wpJ, okS, lt4S, popR, litS, Int32.reduceLT, Int32.reduceLE, List.getElem?_cons_zero, List.getElem?_cons_succ, Bool.false_eq_true, ↓reduceIte, Nat.reduceMod, Nat.reduceDiv, Nat.reduceAdd, Nat.reduceSub, Nat.reduceMul, Nat.reduceLeDiff, Nat.reduceEqDiff, Nat.reduceBEq, Int.reduceToNat, Int.reduceAdd, Int32.reduceOfInt, Int64.reduceOfInt, Int32.reduceToNatClampNeg, Int32.reduceOfNat, Bool.or_self, Bool.or_false, Bool.false_or, Bool.true_or, Bool.or_true, true_and, and_true, false_and, and_false, List.set_cons_zero, List.set_cons_succ, List.take_succ_cons, List.take_zero, List.drop_succ_cons, List.drop_zero, List.reverse_cons, List.reverse_nil, List.nil_append, List.cons_append, List.length_cons, List.length_nil, Option.toList_some, Option.toList_none, not_true_eq_false, not_false_eq_true, forall_const, true_implies, false_implies, nrw, TTS, s180, s181, s174, i180, i181, i174, shM, isRl, and01, bI_0, linS, nI_add, clN, inN, inLS, shR hr, hr, hn, subS, true_and, and_true, true_or, or_false]
    refine vc_for (ix (m.1 90 4)) (fun i => [.ref 86, .ref r, .int b, .int (fd (fun h => if m.1 90 (29 + 3 * h + 0) = b ∧ m.1 r (24 + 2 * h) = 0 then m.1 90 (29 + 3 * h + 1) else 0) i), .int (nI i)]) (fun _ => m) (fun i hi => ?_) ?_
    · refine vc_wp (T := TT [(180, S180), (181, S181), (174, S174)]) (TTc t180 (TTc t181 (TTc t174 TTn))) (fun _ => false) (rt0 := some .int) rfl (ckl_drop 4 c187) rfl ?_
      have hi2 : ¬ ix (m.1 90 4) ≤ i := by omega
      have hi12 : i < 12 := by have := ix_max (k := 12) hn (by decide); omega
      simp (disch := omega) only [List.drop, i187, wp_iinc, wpE0, wpE1, wpE2, wpE3, wpE4, wpE5, wpJ, okS, lt4S, popR, litS, Int32.reduceLT, Int32.reduceLE, List.getElem?_cons_zero, List.getElem?_cons_succ, Bool.false_eq_true, ↓reduceIte, Nat.reduceMod, Nat.reduceDiv, Nat.reduceAdd, Nat.reduceSub, Nat.reduceMul, Nat.reduceLeDiff, Nat.reduceEqDiff, Nat.reduceBEq, Int.reduceToNat, Int.reduceAdd, Int32.reduceOfInt, Int64.reduceOfInt, Int32.reduceToNatClampNeg, Int32.reduceOfNat, Bool.or_self, Bool.or_false, Bool.false_or, Bool.true_or, Bool.or_true, true_and, and_true, false_and, and_false, List.set_cons_zero, List.set_cons_succ, List.take_succ_cons, List.take_zero, List.drop_succ_cons, List.drop_zero, List.reverse_cons, List.reverse_nil, List.nil_append, List.cons_append, List.length_cons, List.length_nil, Option.toList_some, Option.toList_none, not_true_eq_false, not_false_eq_true, forall_const, true_implies, false_implies, nrw, TTS, s180, s181, s174, i180, i181, i174, shM, isRl, and01, bI_0, linS, nI_add, clN, inN, inLS, shR hr, hr, hn, subS, ix_le _ (show i < 2 ^ 31 by omega), hi2, not_true_eq_false, not_false_eq_true, and_true, true_and, and_false, false_and, and_self, or_true, true_or, or_false, false_or, ↓reduceIte, if_true, if_false, eq_self, nI_1, fd, anB]
      repeat' (first | apply And.intro | intro _)
      all_goals (simp only [*, not_true_eq_false, not_false_eq_true, and_true, true_and, and_false, false_and, and_self, or_true, true_or, or_false, false_or, ↓reduceIte, if_true, if_false, eq_self, Int32.add_zero]; done)
    · refine vc_wp (T := TT [(180, S180), (181, S181), (174, S174)]) (TTc t180 (TTc t181 (TTc t174 TTn))) (fun _ => false) (rt0 := some .int) rfl (ckl_drop 4 c187) rfl ?_
      have hi2 : ix (m.1 90 4) ≤ ix (m.1 90 4) := Nat.le_refl _
      have hi12 : ix (m.1 90 4) < 2 ^ 31 := by have := ix_max (k := 12) hn (by decide); omega
      simp (disch := omega) only [List.drop, i187, wp_iinc, wpE0, wpE1, wpE2, wpE3, wpE4, wpE5, wpJ, okS, lt4S, popR, litS, Int32.reduceLT, Int32.reduceLE, List.getElem?_cons_zero, List.getElem?_cons_succ, Bool.false_eq_true, ↓reduceIte, Nat.reduceMod, Nat.reduceDiv, Nat.reduceAdd, Nat.reduceSub, Nat.reduceMul, Nat.reduceLeDiff, Nat.reduceEqDiff, Nat.reduceBEq, Int.reduceToNat, Int.reduceAdd, Int32.reduceOfInt, Int64.reduceOfInt, Int32.reduceToNatClampNeg, Int32.reduceOfNat, Bool.or_self, Bool.or_false, Bool.false_or, Bool.true_or, Bool.or_true, true_and, and_true, false_and, and_false, List.set_cons_zero, List.set_cons_succ, List.take_succ_cons, List.take_zero, List.drop_succ_cons, List.drop_zero, List.reverse_cons, List.reverse_nil, List.nil_append, List.cons_append, List.length_cons, List.length_nil, Option.toList_some, Option.toList_none, not_true_eq_false, not_false_eq_true, forall_const, true_implies, false_implies, nrw, TTS, s180, s181, s174, i180, i181, i174, shM, isRl, and01, bI_0, linS, nI_add, clN, inN, inLS, shR hr, hr, hn, subS, ix_le _ hi12, hi2, not_true_eq_false, not_false_eq_true, and_true, true_and, and_false, false_and, and_self, or_true, true_or, or_false, false_or, ↓reduceIte, if_true, if_false, eq_self]
      exact h

def S188 (as : List Value) (m : xM) (Q : xQt) : Prop := match as with
  | [.ref o, .ref r, .int b] => (o = 86) ∧ (isR r) ∧ (m.1 90 4 ≤ 12) ∧ Q (some (.int (fd (fun h => if m.1 90 (29 + 3 * h + 0) = b ∧ m.1 r (24 + 2 * h) = 0 ∧ ¬ m.1 r (24 + 2 * h + 1) ≤ 0 then 1 else 0) (ix (m.1 90 4))))) (m)
  | _ => False
theorem s188 (o : Nat) (r : Nat) (b : Int32) (m : xM) (Q : xQt) : S188 [.ref o, .ref r, .int b] m Q = ((o = 86) ∧ (isR r) ∧ (m.1 90 4 ≤ 12) ∧ Q (some (.int (fd (fun h => if m.1 90 (29 + 3 * h + 0) = b ∧ m.1 r (24 + 2 * h) = 0 ∧ ¬ m.1 r (24 + 2 * h + 1) ≤ 0 then 1 else 0) (ix (m.1 90 4))))) (m)) := rfl
theorem t188 {G : xG} : ∀ as m Q, S188 as m Q → Tri G 188 as m Q := by
  intro as m Q h
  match as, h with
  | [.ref o, .ref r, .int b], h =>
    obtain ⟨rfl, hr, hn, h⟩ := h
    refine tri_vc (ls := [.ref 86, .ref r, .int b, .null, .null]) (by decide +kernel) rfl (Nat.le_of_ble_eq_true rfl) ?_
    refine vc_seq (pc1 := 5) (ls1 := [.ref 86, .ref r, .int b, .int 0, .int 0]) (m1 := m) (vc_wp (T := TT [(180, S180), (181, S181), (173, S173)]) (TTc t180 (TTc t181 (TTc t173 TTn))) (fun p => p == 5) (rt0 := some .int) rfl c188 rfl ?_) ?_
    · simp only [i188, wp_iinc, wpE0, wpE1, wpE2, wpE3, wpE4, wpE5, wpJ, okS, lt4S, popR, litS, Int32.reduceLT, Int32.reduceLE, List.getElem?_cons_zero, List.getElem?_cons_succ, Bool.false_eq_true, ↓reduceIte, Nat.reduceMod, Nat.reduceDiv, Nat.reduceAdd, Nat.reduceSub, Nat.reduceMul, Nat.reduceLeDiff, Nat.reduceEqDiff, Nat.reduceBEq, Int.reduceToNat, Int.reduceAdd, Int32.reduceOfInt, Int64.reduceOfInt, Int32.reduceToNatClampNeg, Int32.reduceOfNat, Bool.or_self, Bool.or_false, Bool.false_or, Bool.true_or, Bool.or_true, true_and, and_true, false_and, and_false, List.set_cons_zero, List.set_cons_succ, List.take_succ_cons, List.take_zero, List.drop_succ_cons, List.drop_zero, List.reverse_cons, List.reverse_nil, List.nil_append, List.cons_append, List.length_cons, List.length_nil, Option.toList_some, Option.toList_none, not_true_eq_false, not_false_eq_true, forall_const, true_implies, false_implies, nrw, TTS, s180, s181, s173, s174, i180, i181, i173, i174, shM, isRl, and01, bI_0, linS, nI_add, clN, inN, inLS, shR hr, hr, hn, subS, true_and, and_true, true_or, or_false]
    refine vc_for (ix (m.1 90 4)) (fun i => [.ref 86, .ref r, .int b, .int (fd (fun h => if m.1 90 (29 + 3 * h + 0) = b ∧ m.1 r (24 + 2 * h) = 0 ∧ ¬ m.1 r (24 + 2 * h + 1) ≤ 0 then 1 else 0) i), .int (nI i)]) (fun _ => m) (fun i hi => ?_) ?_
    · refine vc_wp (T := TT [(180, S180), (181, S181), (173, S173)]) (TTc t180 (TTc t181 (TTc t173 TTn))) (fun _ => false) (rt0 := some .int) rfl (ckl_drop 4 c188) rfl ?_
      have hi2 : ¬ ix (m.1 90 4) ≤ i := by omega
      have hi12 : i < 12 := by have := ix_max (k := 12) hn (by decide); omega
      simp (disch := omega) only [List.drop, i188, wp_iinc, wpE0, wpE1, wpE2, wpE3, wpE4, wpE5, wpJ, okS, lt4S, popR, litS, Int32.reduceLT, Int32.reduceLE, List.getElem?_cons_zero, List.getElem?_cons_succ, Bool.false_eq_true, ↓reduceIte, Nat.reduceMod, Nat.reduceDiv, Nat.reduceAdd, Nat.reduceSub, Nat.reduceMul, Nat.reduceLeDiff, Nat.reduceEqDiff, Nat.reduceBEq, Int.reduceToNat, Int.reduceAdd, Int32.reduceOfInt, Int64.reduceOfInt, Int32.reduceToNatClampNeg, Int32.reduceOfNat, Bool.or_self, Bool.or_false, Bool.false_or, Bool.true_or, Bool.or_true, true_and, and_true, false_and, and_false, List.set_cons_zero, List.set_cons_succ, List.take_succ_cons, List.take_zero, List.drop_succ_cons, List.drop_zero, List.reverse_cons, List.reverse_nil, List.nil_append, List.cons_append, List.length_cons, List.length_nil, Option.toList_some, Option.toList_none, not_true_eq_false, not_false_eq_true, forall_const, true_implies, false_implies, nrw, TTS, s180, s181, s173, s174, i180, i181, i173, i174, shM, isRl, and01, bI_0, linS, nI_add, clN, inN, inLS, shR hr, hr, hn, subS, ix_le _ (show i < 2 ^ 31 by omega), hi2, not_true_eq_false, not_false_eq_true, and_true, true_and, and_false, false_and, and_self, or_true, true_or, or_false, false_or, ↓reduceIte, if_true, if_false, eq_self, nI_1, fd, anB]
      repeat' (first | apply And.intro | intro _)
      all_goals (simp only [*, not_true_eq_false, not_false_eq_true, and_true, true_and, and_false, false_and, and_self, or_true, true_or, or_false, false_or, ↓reduceIte, if_true, if_false, eq_self, Int32.add_zero]; done)
    · refine vc_wp (T := TT [(180, S180), (181, S181), (173, S173)]) (TTc t180 (TTc t181 (TTc t173 TTn))) (fun _ => false) (rt0 := some .int) rfl (ckl_drop 4 c188) rfl ?_
      have hi2 : ix (m.1 90 4) ≤ ix (m.1 90 4) := Nat.le_refl _
      have hi12 : ix (m.1 90 4) < 2 ^ 31 := by have := ix_max (k := 12) hn (by decide); omega
      simp (disch := omega) only [List.drop, i188, wp_iinc, wpE0, wpE1, wpE2, wpE3, wpE4, wpE5, wpJ, okS, lt4S, popR, litS, Int32.reduceLT, Int32.reduceLE, List.getElem?_cons_zero, List.getElem?_cons_succ, Bool.false_eq_true, ↓reduceIte, Nat.reduceMod, Nat.reduceDiv, Nat.reduceAdd, Nat.reduceSub, Nat.reduceMul, Nat.reduceLeDiff, Nat.reduceEqDiff, Nat.reduceBEq, Int.reduceToNat, Int.reduceAdd, Int32.reduceOfInt, Int64.reduceOfInt, Int32.reduceToNatClampNeg, Int32.reduceOfNat, Bool.or_self, Bool.or_false, Bool.false_or, Bool.true_or, Bool.or_true, true_and, and_true, false_and, and_false, List.set_cons_zero, List.set_cons_succ, List.take_succ_cons, List.take_zero, List.drop_succ_cons, List.drop_zero, List.reverse_cons, List.reverse_nil, List.nil_append, List.cons_append, List.length_cons, List.length_nil, Option.toList_some, Option.toList_none, not_true_eq_false, not_false_eq_true, forall_const, true_implies, false_implies, nrw, TTS, s180, s181, s173, s174, i180, i181, i173, i174, shM, isRl, and01, bI_0, linS, nI_add, clN, inN, inLS, shR hr, hr, hn, subS, ix_le _ hi12, hi2, not_true_eq_false, not_false_eq_true, and_true, true_and, and_false, false_and, and_self, or_true, true_or, or_false, false_or, ↓reduceIte, if_true, if_false, eq_self]
      exact h

def S193 (as : List Value) (m : xM) (Q : xQt) : Prop := match as with
  | [.ref o, .ref r, .int b] => (o = 86) ∧ (isR r) ∧ (m.1 90 4 ≤ 12) ∧ (vp_in b 6) ∧ Q (some (.int (fd (fun h => if m.1 90 (29 + 3 * h + 0) = b ∧ m.1 r (24 + 2 * h) = 2 ∧ ¬ m.1 r (24 + 2 * h + 1) ≤ 0 then m.1 90 (29 + 3 * h + 1) else 0) (ix (m.1 90 4)) * m.1 90 (5 + 4 * ix b + 0) / 10))) (m)
  | _ => False
theorem s193 (o : Nat) (r : Nat) (b : Int32) (m : xM) (Q : xQt) : S193 [.ref o, .ref r, .int b] m Q = ((o = 86) ∧ (isR r) ∧ (m.1 90 4 ≤ 12) ∧ (vp_in b 6) ∧ Q (some (.int (fd (fun h => if m.1 90 (29 + 3 * h + 0) = b ∧ m.1 r (24 + 2 * h) = 2 ∧ ¬ m.1 r (24 + 2 * h + 1) ≤ 0 then m.1 90 (29 + 3 * h + 1) else 0) (ix (m.1 90 4)) * m.1 90 (5 + 4 * ix b + 0) / 10))) (m)) := rfl
theorem t193 {G : xG} : ∀ as m Q, S193 as m Q → Tri G 193 as m Q := by
  intro as m Q h
  match as, h with
  | [.ref o, .ref r, .int b], h =>
    obtain ⟨rfl, hr, hn, hb, h⟩ := h
    refine tri_vc (ls := [.ref 86, .ref r, .int b, .null, .null]) (by decide +kernel) rfl (Nat.le_of_ble_eq_true rfl) ?_
    refine vc_seq (pc1 := 5) (ls1 := [.ref 86, .ref r, .int b, .int 0, .int 0]) (m1 := m) (vc_wp (T := TT [(180, S180), (181, S181), (173, S173), (174, S174), (186, S186)]) (TTc t180 (TTc t181 (TTc t173 (TTc t174 (TTc t186 TTn))))) (fun p => p == 5) (rt0 := some .int) rfl c193 rfl ?_) ?_
    · simp only [i193, wp_iinc, wpE0, wpE1, wpE2, wpE3, wpE4, wpE5, wpJ, okS, lt4S, popR, litS, Int32.reduceLT, Int32.reduceLE, List.getElem?_cons_zero, List.getElem?_cons_succ, Bool.false_eq_true, ↓reduceIte, Nat.reduceMod, Nat.reduceDiv, Nat.reduceAdd, Nat.reduceSub, Nat.reduceMul, Nat.reduceLeDiff, Nat.reduceEqDiff, Nat.reduceBEq, Int.reduceToNat, Int.reduceAdd, Int32.reduceOfInt, Int64.reduceOfInt, Int32.reduceToNatClampNeg, Int32.reduceOfNat, Bool.or_self, Bool.or_false, Bool.false_or, Bool.true_or, Bool.or_true, true_and, and_true, false_and, and_false, List.set_cons_zero, List.set_cons_succ, List.take_succ_cons, List.take_zero, List.drop_succ_cons, List.drop_zero, List.reverse_cons, List.reverse_nil, List.nil_append, List.cons_append, List.length_cons, List.length_nil, Option.toList_some, Option.toList_none, not_true_eq_false, not_false_eq_true, forall_const, true_implies, false_implies, nrw, TTS, s180, s181, s173, s174, s186, i180, i181, i173, i174, i186, shM, isRl, and01, bI_0, linS, nI_add, clN, inN, inLS, shR hr, ne10, hr, hn, hb, subS, true_and, and_true, true_or, or_false]
    refine vc_for (ix (m.1 90 4)) (fun i => [.ref 86, .ref r, .int b, .int (fd (fun h => if m.1 90 (29 + 3 * h + 0) = b ∧ m.1 r (24 + 2 * h) = 2 ∧ ¬ m.1 r (24 + 2 * h + 1) ≤ 0 then m.1 90 (29 + 3 * h + 1) else 0) i), .int (nI i)]) (fun _ => m) (fun i hi => ?_) ?_
    · refine vc_wp (T := TT [(180, S180), (181, S181), (173, S173), (174, S174), (186, S186)]) (TTc t180 (TTc t181 (TTc t173 (TTc t174 (TTc t186 TTn))))) (fun _ => false) (rt0 := some .int) rfl (ckl_drop 4 c193) rfl ?_
      have hi2 : ¬ ix (m.1 90 4) ≤ i := by omega
      have hi12 : i < 12 := by have := ix_max (k := 12) hn (by decide); omega
      simp (disch := omega) only [List.drop, i193, wp_iinc, wpE0, wpE1, wpE2, wpE3, wpE4, wpE5, wpJ, okS, lt4S, popR, litS, Int32.reduceLT, Int32.reduceLE, List.getElem?_cons_zero, List.getElem?_cons_succ, Bool.false_eq_true, ↓reduceIte, Nat.reduceMod, Nat.reduceDiv, Nat.reduceAdd, Nat.reduceSub, Nat.reduceMul, Nat.reduceLeDiff, Nat.reduceEqDiff, Nat.reduceBEq, Int.reduceToNat, Int.reduceAdd, Int32.reduceOfInt, Int64.reduceOfInt, Int32.reduceToNatClampNeg, Int32.reduceOfNat, Bool.or_self, Bool.or_false, Bool.false_or, Bool.true_or, Bool.or_true, true_and, and_true, false_and, and_false, List.set_cons_zero, List.set_cons_succ, List.take_succ_cons, List.take_zero, List.drop_succ_cons, List.drop_zero, List.reverse_cons, List.reverse_nil, List.nil_append, List.cons_append, List.length_cons, List.length_nil, Option.toList_some, Option.toList_none, not_true_eq_false, not_false_eq_true, forall_const, true_implies, false_implies, nrw, TTS, s180, s181, s173, s174, s186, i180, i181, i173, i174, i186, shM, isRl, and01, bI_0, linS, nI_add, clN, inN, inLS, shR hr, ne10, hr, hn, hb, subS, ix_le _ (show i < 2 ^ 31 by omega), hi2, not_true_eq_false, not_false_eq_true, and_true, true_and, and_false, false_and, and_self, or_true, true_or, or_false, false_or, ↓reduceIte, if_true, if_false, eq_self, nI_1, fd, anB]
      repeat' (first | apply And.intro | intro _)
      all_goals (simp only [*, not_true_eq_false, not_false_eq_true, and_true, true_and, and_false, false_and, and_self, or_true, true_or, or_false, false_or, ↓reduceIte, if_true, if_false, eq_self, Int32.add_zero]; done)
    · refine vc_wp (T := TT [(180, S180), (181, S181), (173, S173), (174, S174), (186, S186)]) (TTc t180 (TTc t181 (TTc t173 (TTc t174 (TTc t186 TTn))))) (fun _ => false) (rt0 := some .int) rfl (ckl_drop 4 c193) rfl ?_
      have hi2 : ix (m.1 90 4) ≤ ix (m.1 90 4) := Nat.le_refl _
      have hi12 : ix (m.1 90 4) < 2 ^ 31 := by have := ix_max (k := 12) hn (by decide); omega
      obtain ⟨j, hj, rfl⟩ := vp_in_of hb (by decide)
      simp (disch := omega) only [clN] at h
      simp (disch := omega) only [List.drop, i193, wp_iinc, wpE0, wpE1, wpE2, wpE3, wpE4, wpE5, wpJ, okS, lt4S, popR, litS, Int32.reduceLT, Int32.reduceLE, List.getElem?_cons_zero, List.getElem?_cons_succ, Bool.false_eq_true, ↓reduceIte, Nat.reduceMod, Nat.reduceDiv, Nat.reduceAdd, Nat.reduceSub, Nat.reduceMul, Nat.reduceLeDiff, Nat.reduceEqDiff, Nat.reduceBEq, Int.reduceToNat, Int.reduceAdd, Int32.reduceOfInt, Int64.reduceOfInt, Int32.reduceToNatClampNeg, Int32.reduceOfNat, Bool.or_self, Bool.or_false, Bool.false_or, Bool.true_or, Bool.or_true, true_and, and_true, false_and, and_false, List.set_cons_zero, List.set_cons_succ, List.take_succ_cons, List.take_zero, List.drop_succ_cons, List.drop_zero, List.reverse_cons, List.reverse_nil, List.nil_append, List.cons_append, List.length_cons, List.length_nil, Option.toList_some, Option.toList_none, not_true_eq_false, not_false_eq_true, forall_const, true_implies, false_implies, nrw, TTS, s180, s181, s173, s174, s186, i180, i181, i173, i174, i186, shM, isRl, and01, bI_0, linS, nI_add, clN, inN, inLS, shR hr, ne10, hr, hn, hb, subS, ix_le _ hi12, hi2, not_true_eq_false, not_false_eq_true, and_true, true_and, and_false, false_and, and_self, or_true, true_or, or_false, false_or, ↓reduceIte, if_true, if_false, eq_self]
      exact h

def S191 (as : List Value) (m : xM) (Q : xQt) : Prop := match as with
  | [.ref o, .ref r, .int b] => (o = 86) ∧ (isR r) ∧ (m.1 90 4 ≤ 12) ∧ Q (some (.int (anB (fun h => decide (m.1 90 (29 + 3 * h + 0) = b ∧ m.1 r (24 + 2 * h) = 3 ∧ ¬ m.1 r (24 + 2 * h + 1) ≤ 0)) (ix (m.1 90 4))))) (m)
  | _ => False
theorem s191 (o : Nat) (r : Nat) (b : Int32) (m : xM) (Q : xQt) : S191 [.ref o, .ref r, .int b] m Q = ((o = 86) ∧ (isR r) ∧ (m.1 90 4 ≤ 12) ∧ Q (some (.int (anB (fun h => decide (m.1 90 (29 + 3 * h + 0) = b ∧ m.1 r (24 + 2 * h) = 3 ∧ ¬ m.1 r (24 + 2 * h + 1) ≤ 0)) (ix (m.1 90 4))))) (m)) := rfl
theorem t191 {G : xG} : ∀ as m Q, S191 as m Q → Tri G 191 as m Q := by
  intro as m Q h
  match as, h with
  | [.ref o, .ref r, .int b], h =>
    obtain ⟨rfl, hr, hn, h⟩ := h
    refine tri_vc (ls := [.ref 86, .ref r, .int b, .null, .null]) (by decide +kernel) rfl (Nat.le_of_ble_eq_true rfl) ?_
    refine vc_seq (pc1 := 5) (ls1 := [.ref 86, .ref r, .int b, .int 0, .int 0]) (m1 := m) (vc_wp (T := TT [(180, S180), (181, S181), (173, S173)]) (TTc t180 (TTc t181 (TTc t173 TTn))) (fun p => p == 5) (rt0 := some .boolean) rfl c191 rfl ?_) ?_
    · simp only [i191, wp_iinc, wpE0, wpE1, wpE2, wpE3, wpE4, wpE5, wpJ, okS, lt4S, popR, litS, Int32.reduceLT, Int32.reduceLE, List.getElem?_cons_zero, List.getElem?_cons_succ, Bool.false_eq_true, ↓reduceIte, Nat.reduceMod, Nat.reduceDiv, Nat.reduceAdd, Nat.reduceSub, Nat.reduceMul, Nat.reduceLeDiff, Nat.reduceEqDiff, Nat.reduceBEq, Int.reduceToNat, Int.reduceAdd, Int32.reduceOfInt, Int64.reduceOfInt, Int32.reduceToNatClampNeg, Int32.reduceOfNat, Bool.or_self, Bool.or_false, Bool.false_or, Bool.true_or, Bool.or_true, true_and, and_true, false_and, and_false, List.set_cons_zero, List.set_cons_succ, List.take_succ_cons, List.take_zero, List.drop_succ_cons, List.drop_zero, List.reverse_cons, List.reverse_nil, List.nil_append, List.cons_append, List.length_cons, List.length_nil, Option.toList_some, Option.toList_none, not_true_eq_false, not_false_eq_true, forall_const, true_implies, false_implies, nrw, TTS, s180, s181, s173, s174, i180, i181, i173, i174, shM, isRl, and01, bI_0, linS, nI_add, clN, inN, inLS, shR hr, decide_eq_true_eq, hr, hn, subS, true_and, and_true, true_or, or_false]
    refine vc_for (ix (m.1 90 4)) (fun i => [.ref 86, .ref r, .int b, .int (anB (fun h => decide (m.1 90 (29 + 3 * h + 0) = b ∧ m.1 r (24 + 2 * h) = 3 ∧ ¬ m.1 r (24 + 2 * h + 1) ≤ 0)) i), .int (nI i)]) (fun _ => m) (fun i hi => ?_) ?_
    · refine vc_wp (T := TT [(180, S180), (181, S181), (173, S173)]) (TTc t180 (TTc t181 (TTc t173 TTn))) (fun _ => false) (rt0 := some .boolean) rfl (ckl_drop 4 c191) rfl ?_
      have hi2 : ¬ ix (m.1 90 4) ≤ i := by omega
      have hi12 : i < 12 := by have := ix_max (k := 12) hn (by decide); omega
      simp (disch := omega) only [List.drop, i191, wp_iinc, wpE0, wpE1, wpE2, wpE3, wpE4, wpE5, wpJ, okS, lt4S, popR, litS, Int32.reduceLT, Int32.reduceLE, List.getElem?_cons_zero, List.getElem?_cons_succ, Bool.false_eq_true, ↓reduceIte, Nat.reduceMod, Nat.reduceDiv, Nat.reduceAdd, Nat.reduceSub, Nat.reduceMul, Nat.reduceLeDiff, Nat.reduceEqDiff, Nat.reduceBEq, Int.reduceToNat, Int.reduceAdd, Int32.reduceOfInt, Int64.reduceOfInt, Int32.reduceToNatClampNeg, Int32.reduceOfNat, Bool.or_self, Bool.or_false, Bool.false_or, Bool.true_or, Bool.or_true, true_and, and_true, false_and, and_false, List.set_cons_zero, List.set_cons_succ, List.take_succ_cons, List.take_zero, List.drop_succ_cons, List.drop_zero, List.reverse_cons, List.reverse_nil, List.nil_append, List.cons_append, List.length_cons, List.length_nil, Option.toList_some, Option.toList_none, not_true_eq_false, not_false_eq_true, forall_const, true_implies, false_implies, nrw, TTS, s180, s181, s173, s174, i180, i181, i173, i174, shM, isRl, and01, bI_0, linS, nI_add, clN, inN, inLS, shR hr, decide_eq_true_eq, hr, hn, subS, ix_le _ (show i < 2 ^ 31 by omega), hi2, not_true_eq_false, not_false_eq_true, and_true, true_and, and_false, false_and, and_self, or_true, true_or, or_false, false_or, ↓reduceIte, if_true, if_false, eq_self, nI_1, fd, anB]
      repeat' (first | apply And.intro | intro _)
      all_goals (simp only [*, not_true_eq_false, not_false_eq_true, and_true, true_and, and_false, false_and, and_self, or_true, true_or, or_false, false_or, ↓reduceIte, if_true, if_false, eq_self]; done)
    · refine vc_wp (T := TT [(180, S180), (181, S181), (173, S173)]) (TTc t180 (TTc t181 (TTc t173 TTn))) (fun _ => false) (rt0 := some .boolean) rfl (ckl_drop 4 c191) rfl ?_
      have hi2 : ix (m.1 90 4) ≤ ix (m.1 90 4) := Nat.le_refl _
      have hi12 : ix (m.1 90 4) < 2 ^ 31 := by have := ix_max (k := 12) hn (by decide); omega
      simp (disch := omega) only [List.drop, i191, wp_iinc, wpE0, wpE1, wpE2, wpE3, wpE4, wpE5, wpJ, okS, lt4S, popR, litS, Int32.reduceLT, Int32.reduceLE, List.getElem?_cons_zero, List.getElem?_cons_succ, Bool.false_eq_true, ↓reduceIte, Nat.reduceMod, Nat.reduceDiv, Nat.reduceAdd, Nat.reduceSub, Nat.reduceMul, Nat.reduceLeDiff, Nat.reduceEqDiff, Nat.reduceBEq, Int.reduceToNat, Int.reduceAdd, Int32.reduceOfInt, Int64.reduceOfInt, Int32.reduceToNatClampNeg, Int32.reduceOfNat, Bool.or_self, Bool.or_false, Bool.false_or, Bool.true_or, Bool.or_true, true_and, and_true, false_and, and_false, List.set_cons_zero, List.set_cons_succ, List.take_succ_cons, List.take_zero, List.drop_succ_cons, List.drop_zero, List.reverse_cons, List.reverse_nil, List.nil_append, List.cons_append, List.length_cons, List.length_nil, Option.toList_some, Option.toList_none, not_true_eq_false, not_false_eq_true, forall_const, true_implies, false_implies, nrw, TTS, s180, s181, s173, s174, i180, i181, i173, i174, shM, isRl, and01, bI_0, linS, nI_add, clN, inN, inLS, shR hr, decide_eq_true_eq, hr, hn, subS, ix_le _ hi12, hi2, not_true_eq_false, not_false_eq_true, and_true, true_and, and_false, false_and, and_self, or_true, true_or, or_false, false_or, ↓reduceIte, if_true, if_false, eq_self]
      exact ⟨anB_1 _ _, h⟩
end
section
/-- the Model's rows hold the same -/
def EK (k : KK) (K : Nat → Int32) : Prop := (kWa k = K 0 ∧ kWi k = K 1 ∧ kMu k = K 2 ∧ kNb k = K 3 ∧ kNh k = K 4) ∧ (∀ b, b < ix (K 3) → kBe k b = K (5 + 4 * b + 0) ∧ kSa k b = K (5 + 4 * b + 1) ∧ kAi k b = K (5 + 4 * b + 2) ∧ kFl k b = K (5 + 4 * b + 3)) ∧ (∀ h, h < ix (K 4) → kBo k h = K (29 + 3 * h + 0) ∧ kWe k h = K (29 + 3 * h + 1) ∧ kLa k h = K (29 + 3 * h + 2))
def E6 (N : Nat) (X : X6) (f : Nat → Int32) : Prop := (∀ b, b < 6 → xHo X b = f (4 * b + 0) ∧ xMa X b = f (4 * b + 1) ∧ xWa X b = f (4 * b + 2) ∧ xSi X b = f (4 * b + 3)) ∧ (∀ h, h < N → xSp X h = f (24 + 2 * h) ∧ xGr X h = f (24 + 2 * h + 1))
theorem upd_ne {f : Nat → Int32} {i j : Nat} {x : Int32} (h : j ≠ i) : upd f i x j = f j := if_neg h
theorem upd_eq {f : Nat → Int32} {i j : Nat} {x : Int32} (h : j = i) : upd f i x j = x := if_pos h
/-- every second place from 24 + d on, i of them -/
def sm2 (f g : Nat → Int32) (d i : Nat) : Nat → Int32 := fun j => if 24 + d ≤ j ∧ (j - 24 - d) % 2 = 0 ∧ (j - 24 - d) / 2 < i then g ((j - 24 - d) / 2) else f j
theorem sm2_0 (f g : Nat → Int32) (d : Nat) : sm2 f g d 0 = f := by funext j; simp [sm2]
theorem sm2_in {f g : Nat → Int32} {d i h j : Nat} (hh : h < i) (hj : j = 24 + 2 * h + d) : sm2 f g d i j = g h := by
  subst hj
  unfold sm2
  rw [if_pos (by omega), show (24 + 2 * h + d - 24 - d) / 2 = h by omega]
theorem sm2_out {f g : Nat → Int32} {d i j : Nat} (hj : ∀ h, h < i → j ≠ 24 + 2 * h + d) : sm2 f g d i j = f j := by
  unfold sm2
  rw [if_neg]
  intro ⟨h1, h2, h3⟩
  exact hj ((j - 24 - d) / 2) h3 (by omega)
theorem sm2_s {f g : Nat → Int32} {d i j : Nat} {x : Int32} (hj : j = 24 + 2 * i + d) (e : g i = x) : upd (sm2 f g d i) j x = sm2 f g d (i + 1) := by
  subst hj
  funext q
  by_cases hq : q = 24 + 2 * i + d
  · rw [upd_eq hq, sm2_in (h := i) (by omega) hq, e]
  · rw [upd_ne hq]
    by_cases h2 : ∃ h, h < i ∧ q = 24 + 2 * h + d
    · obtain ⟨h, h3, h4⟩ := h2
      rw [sm2_in h3 h4, sm2_in (i := i + 1) (by omega) h4]
    · rw [sm2_out (fun h h3 h4 => h2 ⟨h, h3, h4⟩), sm2_out (fun h h3 h4 => ?_)]
      by_cases h5 : h = i
      · rw [h5] at h4; exact hq h4
      · exact h2 ⟨h, by omega, h4⟩
theorem sm2_k {f g : Nat → Int32} {d i j : Nat} (hj : j = 24 + 2 * i + d) (e : g i = f j) : sm2 f g d i = sm2 f g d (i + 1) := by
  rw [← sm2_s hj e]
  funext q
  by_cases hq : q = j
  · rw [upd_eq hq, hq, sm2_out (by intros; omega)]
  · rw [upd_ne hq]
theorem sm2_i0 (f g : Nat → Int32) (i : Nat) : sm2 f g 0 i (24 + 2 * i) = f (24 + 2 * i) := sm2_out (by intros; omega)
theorem sm2_i1 (f g : Nat → Int32) (i : Nat) : sm2 f g 1 i (24 + 2 * i + 1) = f (24 + 2 * i + 1) := sm2_out (by intros; omega)
theorem sm2_p (f g : Nat → Int32) (i h : Nat) : sm2 f g 1 i (24 + 2 * h) = f (24 + 2 * h) := sm2_out (by intros; omega)
theorem sm2_q (f g : Nat → Int32) (i h : Nat) : sm2 f g 0 i (24 + 2 * h + 1) = f (24 + 2 * h + 1) := sm2_out (by intros; omega)
theorem sm2_lo {f g : Nat → Int32} {d i j : Nat} (h : j < 24) : sm2 f g d i j = f j := sm2_out (by intros; omega)
theorem sm2_hi {f g : Nat → Int32} {d i j : Nat} (h : 48 ≤ j) (hi : i ≤ 12) (hd : d ≤ 1) : sm2 f g d i j = f j := sm2_out (by intros; omega)
theorem e_ho {N : Nat} {X : X6} {f : Nat → Int32} {b : Nat} {v : Int32} (h : E6 N X f) (hb : b < 6) : E6 N (upd X.1 b v, X.2) (upd f (4 * b + 0) v) := by
  refine ⟨fun b' hb' => ?_, fun h' hh => ⟨?_, ?_⟩⟩
  · obtain ⟨h1, h2, h3, h4⟩ := h.1 b' hb'
    refine ⟨?_, by rw [upd_ne (by omega)]; exact h2, by rw [upd_ne (by omega)]; exact h3, by rw [upd_ne (by omega)]; exact h4⟩
    by_cases e : b' = b
    · rw [upd_eq (by omega)]; exact upd_eq e
    · rw [upd_ne (by omega)]; exact (upd_ne e).trans h1
  · rw [upd_ne (by omega)]; exact (h.2 h' hh).1
  · rw [upd_ne (by omega)]; exact (h.2 h' hh).2
theorem e_ma {N : Nat} {X : X6} {f : Nat → Int32} {b : Nat} {v : Int32} (h : E6 N X f) (hb : b < 6) : E6 N (X.1, upd X.2.1 b v, X.2.2) (upd f (4 * b + 1) v) := by
  refine ⟨fun b' hb' => ?_, fun h' hh => ⟨?_, ?_⟩⟩
  · obtain ⟨h1, h2, h3, h4⟩ := h.1 b' hb'
    refine ⟨by rw [upd_ne (by omega)]; exact h1, ?_, by rw [upd_ne (by omega)]; exact h3, by rw [upd_ne (by omega)]; exact h4⟩
    by_cases e : b' = b
    · rw [upd_eq (by omega)]; exact upd_eq e
    · rw [upd_ne (by omega)]; exact (upd_ne e).trans h2
  · rw [upd_ne (by omega)]; exact (h.2 h' hh).1
  · rw [upd_ne (by omega)]; exact (h.2 h' hh).2
theorem e_wa {N : Nat} {X : X6} {f : Nat → Int32} {b : Nat} {v : Int32} (h : E6 N X f) (hb : b < 6) : E6 N (X.1, X.2.1, upd X.2.2.1 b v, X.2.2.2) (upd f (4 * b + 2) v) := by
  refine ⟨fun b' hb' => ?_, fun h' hh => ⟨?_, ?_⟩⟩
  · obtain ⟨h1, h2, h3, h4⟩ := h.1 b' hb'
    refine ⟨by rw [upd_ne (by omega)]; exact h1, by rw [upd_ne (by omega)]; exact h2, ?_, by rw [upd_ne (by omega)]; exact h4⟩
    by_cases e : b' = b
    · rw [upd_eq (by omega)]; exact upd_eq e
    · rw [upd_ne (by omega)]; exact (upd_ne e).trans h3
  · rw [upd_ne (by omega)]; exact (h.2 h' hh).1
  · rw [upd_ne (by omega)]; exact (h.2 h' hh).2
theorem e_si {N : Nat} {X : X6} {f : Nat → Int32} {b : Nat} {v : Int32} (h : E6 N X f) (hb : b < 6) : E6 N (X.1, X.2.1, X.2.2.1, upd X.2.2.2.1 b v, X.2.2.2.2) (upd f (4 * b + 3) v) := by
  refine ⟨fun b' hb' => ?_, fun h' hh => ⟨?_, ?_⟩⟩
  · obtain ⟨h1, h2, h3, h4⟩ := h.1 b' hb'
    refine ⟨by rw [upd_ne (by omega)]; exact h1, by rw [upd_ne (by omega)]; exact h2, by rw [upd_ne (by omega)]; exact h3, ?_⟩
    by_cases e : b' = b
    · rw [upd_eq (by omega)]; exact upd_eq e
    · rw [upd_ne (by omega)]; exact (upd_ne e).trans h4
  · rw [upd_ne (by omega)]; exact (h.2 h' hh).1
  · rw [upd_ne (by omega)]; exact (h.2 h' hh).2
theorem e_sp {N : Nat} {X : X6} {f g g' : Nat → Int32} {n : Nat} (h : E6 N X f) (hn : n ≤ 12) (hg : ∀ h, h < n → g h = g' h) : E6 N (X.1, X.2.1, X.2.2.1, X.2.2.2.1, mapF (xSp X) g n, X.2.2.2.2.2) (sm2 f g' 0 n) := by
  refine ⟨fun b' hb' => ?_, fun h' hh => ⟨?_, ?_⟩⟩
  · obtain ⟨h1, h2, h3, h4⟩ := h.1 b' hb'
    exact ⟨by rw [sm2_lo (by omega)]; exact h1, by rw [sm2_lo (by omega)]; exact h2, by rw [sm2_lo (by omega)]; exact h3, by rw [sm2_lo (by omega)]; exact h4⟩
  · show mapF (xSp X) g n h' = _
    unfold mapF
    by_cases e : h' < n
    · rw [if_pos e, sm2_in (d := 0) (j := 24 + 2 * h') e rfl, hg h' e]
    · rw [if_neg e, sm2_out (by intros; omega)]; exact (h.2 h' hh).1
  · rw [sm2_q]; exact (h.2 h' hh).2
theorem e_gr {N : Nat} {X : X6} {f g g' : Nat → Int32} {n : Nat} (h : E6 N X f) (hn : n ≤ 12) (hg : ∀ h, h < n → g h = g' h) : E6 N (X.1, X.2.1, X.2.2.1, X.2.2.2.1, X.2.2.2.2.1, mapF (xGr X) g n) (sm2 f g' 1 n) := by
  refine ⟨fun b' hb' => ?_, fun h' hh => ⟨?_, ?_⟩⟩
  · obtain ⟨h1, h2, h3, h4⟩ := h.1 b' hb'
    exact ⟨by rw [sm2_lo (by omega)]; exact h1, by rw [sm2_lo (by omega)]; exact h2, by rw [sm2_lo (by omega)]; exact h3, by rw [sm2_lo (by omega)]; exact h4⟩
  · rw [sm2_p]; exact (h.2 h' hh).1
  · show mapF (xGr X) g n h' = _
    unfold mapF
    by_cases e : h' < n
    · rw [if_pos e, sm2_in (d := 1) (j := 24 + 2 * h' + 1) e rfl, hg h' e]
    · rw [if_neg e, sm2_out (by intros; omega)]; exact (h.2 h' hh).2

theorem neR {r : Nat} (h : isR r) : (90 = r) = False ∧ (r = 90) = False ∧ (86 = r) = False := by rcases h with rfl | rfl <;> simp
def S179 (as : List Value) (m : xM) (Q : xQt) : Prop := match as with
  | [.ref o, .ref r, .int b, .int f, .int t] => (o = 86) ∧ (isR r) ∧ (m.1 90 4 ≤ 12) ∧ Q (none) (xa m r (sm2 (m.1 r) (fun h => if m.1 90 (29 + 3 * h + 0) = b ∧ m.1 r (24 + 2 * h) = f then t else m.1 r (24 + 2 * h)) 0 (ix (m.1 90 4))))
  | _ => False
theorem s179 (o : Nat) (r : Nat) (b : Int32) (f : Int32) (t : Int32) (m : xM) (Q : xQt) : S179 [.ref o, .ref r, .int b, .int f, .int t] m Q = ((o = 86) ∧ (isR r) ∧ (m.1 90 4 ≤ 12) ∧ Q (none) (xa m r (sm2 (m.1 r) (fun h => if m.1 90 (29 + 3 * h + 0) = b ∧ m.1 r (24 + 2 * h) = f then t else m.1 r (24 + 2 * h)) 0 (ix (m.1 90 4))))) := rfl
theorem t179 {G : xG} : ∀ as m Q, S179 as m Q → Tri G 179 as m Q := by
  intro as m Q h
  match as, h with
  | [.ref o, .ref r, .int b, .int f, .int t], h =>
    obtain ⟨rfl, hr, hn, h⟩ := h
    refine tri_vc (ls := [.ref 86, .ref r, .int b, .int f, .int t, .null]) (by decide +kernel) rfl (Nat.le_of_ble_eq_true rfl) ?_
    refine vc_seq (pc1 := 3) (ls1 := [.ref 86, .ref r, .int b, .int f, .int t, .int 0]) (m1 := xa m r (sm2 (m.1 r) (fun h => if m.1 90 (29 + 3 * h + 0) = b ∧ m.1 r (24 + 2 * h) = f then t else m.1 r (24 + 2 * h)) 0 0)) (vc_wp (T := TT [(180, S180), (181, S181)]) (TTc t180 (TTc t181 TTn)) (fun p => p == 3) (rt0 := none) rfl c179 rfl ?_) ?_
    · simp only [i179, wp_iinc, wpE0, wpE1, wpE2, wpE3, wpE4, wpE5, wpJ, okS, lt4S, popR, litS, Int32.reduceLT, Int32.reduceLE, List.getElem?_cons_zero, List.getElem?_cons_succ, Bool.false_eq_true, ↓reduceIte, Nat.reduceMod, Nat.reduceDiv, Nat.reduceAdd, Nat.reduceSub, Nat.reduceMul, Nat.reduceLeDiff, Nat.reduceEqDiff, Nat.reduceBEq, Int.reduceToNat, Int.reduceAdd, Int32.reduceOfInt, Int64.reduceOfInt, Int32.reduceToNatClampNeg, Int32.reduceOfNat, Bool.or_self, Bool.or_false, Bool.false_or, Bool.true_or, Bool.or_true, true_and, and_true, false_and, and_false, List.set_cons_zero, List.set_cons_succ, List.take_succ_cons, List.take_zero, List.drop_succ_cons, List.drop_zero, List.reverse_cons, List.reverse_nil, List.nil_append, List.cons_append, List.length_cons, List.length_nil, Option.toList_some, Option.toList_none, not_true_eq_false, not_false_eq_true, forall_const, true_implies, false_implies, nrw, TTS, s180, s181, s174, i180, i181, i174, shM, isRl, and01, bI_0, linS, nI_add, clN, inN, inLS, shR hr, neR hr, hr, hn, subS, true_and, and_true, or_false]
      rw [sm2_0, xa_id]
    refine vc_for (ix (m.1 90 4)) (fun i => [.ref 86, .ref r, .int b, .int f, .int t, .int (nI i)]) (fun i => xa m r (sm2 (m.1 r) (fun h => if m.1 90 (29 + 3 * h + 0) = b ∧ m.1 r (24 + 2 * h) = f then t else m.1 r (24 + 2 * h)) 0 i)) (fun i hi => ?_) ?_
    · refine vc_wp (T := TT [(180, S180), (181, S181)]) (TTc t180 (TTc t181 TTn)) (fun _ => false) (rt0 := none) rfl (ckl_drop 2 c179) rfl ?_
      have hi2 : ¬ ix (m.1 90 4) ≤ i := by omega
      have hi12 : i < 12 := by have := ix_max (k := 12) hn (by decide); omega
      
      simp (disch := omega) only [List.drop, i179, wp_iinc, wpE0, wpE1, wpE2, wpE3, wpE4, wpE5, wpJ, okS, lt4S, popR, litS, Int32.reduceLT, Int32.reduceLE, List.getElem?_cons_zero, List.getElem?_cons_succ, Bool.false_eq_true, ↓reduceIte, Nat.reduceMod, Nat.reduceDiv, Nat.reduceAdd, Nat.reduceSub, Nat.reduceMul, Nat.reduceLeDiff, Nat.reduceEqDiff, Nat.reduceBEq, Int.reduceToNat, Int.reduceAdd, Int32.reduceOfInt, Int64.reduceOfInt, Int32.reduceToNatClampNeg, Int32.reduceOfNat, Bool.or_self, Bool.or_false, Bool.false_or, Bool.true_or, Bool.or_true, true_and, and_true, false_and, and_false, List.set_cons_zero, List.set_cons_succ, List.take_succ_cons, List.take_zero, List.drop_succ_cons, List.drop_zero, List.reverse_cons, List.reverse_nil, List.nil_append, List.cons_append, List.length_cons, List.length_nil, Option.toList_some, Option.toList_none, not_true_eq_false, not_false_eq_true, forall_const, true_implies, false_implies, nrw, TTS, s180, s181, s174, i180, i181, i174, shM, isRl, and01, bI_0, linS, nI_add, clN, inN, inLS, shR hr, neR hr, hr, hn, subS, xa_1, xa_2, xa_xa, sm2_i0, sm2_i1, sm2_p, sm2_lo,  ix_le _ (show i < 2 ^ 31 by omega), hi2, not_true_eq_false, not_false_eq_true, and_true, true_and, and_false, false_and, and_self, or_true, true_or, or_false, false_or, ↓reduceIte, if_true, if_false, eq_self, nI_1]
      repeat' (first | apply And.intro | intro _)
      all_goals first | (rw [sm2_s (d := 0) (j := 24 + 2 * i) rfl (by simp only [*, not_true_eq_false, not_false_eq_true, and_true, true_and, and_false, false_and, and_self, or_true, true_or, or_false, false_or, ↓reduceIte, if_true, if_false, eq_self])]; done) | (rw [← sm2_k (d := 0) (j := 24 + 2 * i) rfl (by simp only [*, not_true_eq_false, not_false_eq_true, and_true, true_and, and_false, false_and, and_self, or_true, true_or, or_false, false_or, ↓reduceIte, if_true, if_false, eq_self])]; done)
    · refine vc_wp (T := TT [(180, S180), (181, S181)]) (TTc t180 (TTc t181 TTn)) (fun _ => false) (rt0 := none) rfl (ckl_drop 2 c179) rfl ?_
      have hi2 : ix (m.1 90 4) ≤ ix (m.1 90 4) := Nat.le_refl _
      have hi12 : ix (m.1 90 4) < 2 ^ 31 := by have := ix_max (k := 12) hn (by decide); omega
      simp (disch := omega) only [List.drop, i179, wp_iinc, wpE0, wpE1, wpE2, wpE3, wpE4, wpE5, wpJ, okS, lt4S, popR, litS, Int32.reduceLT, Int32.reduceLE, List.getElem?_cons_zero, List.getElem?_cons_succ, Bool.false_eq_true, ↓reduceIte, Nat.reduceMod, Nat.reduceDiv, Nat.reduceAdd, Nat.reduceSub, Nat.reduceMul, Nat.reduceLeDiff, Nat.reduceEqDiff, Nat.reduceBEq, Int.reduceToNat, Int.reduceAdd, Int32.reduceOfInt, Int64.reduceOfInt, Int32.reduceToNatClampNeg, Int32.reduceOfNat, Bool.or_self, Bool.or_false, Bool.false_or, Bool.true_or, Bool.or_true, true_and, and_true, false_and, and_false, List.set_cons_zero, List.set_cons_succ, List.take_succ_cons, List.take_zero, List.drop_succ_cons, List.drop_zero, List.reverse_cons, List.reverse_nil, List.nil_append, List.cons_append, List.length_cons, List.length_nil, Option.toList_some, Option.toList_none, not_true_eq_false, not_false_eq_true, forall_const, true_implies, false_implies, nrw, TTS, s180, s181, s174, i180, i181, i174, shM, isRl, and01, bI_0, linS, nI_add, clN, inN, inLS, shR hr, neR hr, hr, hn, subS, xa_1,  ix_le _ hi12, hi2, not_true_eq_false, not_false_eq_true, and_true, true_and, and_false, false_and, and_self, or_true, true_or, or_false, false_or, ↓reduceIte, if_true, if_false, eq_self]
      exact h

def S195 (as : List Value) (m : xM) (Q : xQt) : Prop := match as with
  | [.ref o, .ref r, .int b] => (o = 86) ∧ (isR r) ∧ (m.1 90 4 ≤ 12) ∧ (vp_in b 6) ∧ (∀ h, h < ix (m.1 90 4) → ¬ 6 * m.1 90 (29 + 3 * h + 2) = 0) ∧ Q (none) (xa m r (sm2 (m.1 r) (fun h => if m.1 90 (29 + 3 * h + 0) = b ∧ (¬ m.1 r (24 + 2 * h) = 0 ∨ m.1 r (4 * ix b + 0) = 4) then (if 0 ≤ m.1 r (24 + 2 * h + 1) - (if 10 ≤ m.1 90 0 then 1000 / (6 * m.1 90 (29 + 3 * h + 2)) else 1000 / (6 * m.1 90 (29 + 3 * h + 2)) + 1000 / (6 * m.1 90 (29 + 3 * h + 2)) / 2) then m.1 r (24 + 2 * h + 1) - (if 10 ≤ m.1 90 0 then 1000 / (6 * m.1 90 (29 + 3 * h + 2)) else 1000 / (6 * m.1 90 (29 + 3 * h + 2)) + 1000 / (6 * m.1 90 (29 + 3 * h + 2)) / 2) else 0) else m.1 r (24 + 2 * h + 1)) 1 (ix (m.1 90 4))))
  | _ => False
theorem s195 (o : Nat) (r : Nat) (b : Int32) (m : xM) (Q : xQt) : S195 [.ref o, .ref r, .int b] m Q = ((o = 86) ∧ (isR r) ∧ (m.1 90 4 ≤ 12) ∧ (vp_in b 6) ∧ (∀ h, h < ix (m.1 90 4) → ¬ 6 * m.1 90 (29 + 3 * h + 2) = 0) ∧ Q (none) (xa m r (sm2 (m.1 r) (fun h => if m.1 90 (29 + 3 * h + 0) = b ∧ (¬ m.1 r (24 + 2 * h) = 0 ∨ m.1 r (4 * ix b + 0) = 4) then (if 0 ≤ m.1 r (24 + 2 * h + 1) - (if 10 ≤ m.1 90 0 then 1000 / (6 * m.1 90 (29 + 3 * h + 2)) else 1000 / (6 * m.1 90 (29 + 3 * h + 2)) + 1000 / (6 * m.1 90 (29 + 3 * h + 2)) / 2) then m.1 r (24 + 2 * h + 1) - (if 10 ≤ m.1 90 0 then 1000 / (6 * m.1 90 (29 + 3 * h + 2)) else 1000 / (6 * m.1 90 (29 + 3 * h + 2)) + 1000 / (6 * m.1 90 (29 + 3 * h + 2)) / 2) else 0) else m.1 r (24 + 2 * h + 1)) 1 (ix (m.1 90 4))))) := rfl
theorem t195 {G : xG} : ∀ as m Q, S195 as m Q → Tri G 195 as m Q := by
  intro as m Q h
  match as, h with
  | [.ref o, .ref r, .int b], h =>
    obtain ⟨rfl, hr, hn, hb, hL, h⟩ := h
    refine tri_vc (ls := [.ref 86, .ref r, .int b, .null, .null]) (by decide +kernel) rfl (Nat.le_of_ble_eq_true rfl) ?_
    obtain ⟨j, hj, rfl⟩ := vp_in_of hb (by decide)
    simp (disch := omega) only [clN] at h
    refine vc_seq (pc1 := 2) (ls1 := [.ref 86, .ref r, .int (nI j), .int 0, .null]) (m1 := xa m r (sm2 (m.1 r) (fun h => if m.1 90 (29 + 3 * h + 0) = nI j ∧ (¬ m.1 r (24 + 2 * h) = 0 ∨ m.1 r (4 * j + 0) = 4) then (if 0 ≤ m.1 r (24 + 2 * h + 1) - (if 10 ≤ m.1 90 0 then 1000 / (6 * m.1 90 (29 + 3 * h + 2)) else 1000 / (6 * m.1 90 (29 + 3 * h + 2)) + 1000 / (6 * m.1 90 (29 + 3 * h + 2)) / 2) then m.1 r (24 + 2 * h + 1) - (if 10 ≤ m.1 90 0 then 1000 / (6 * m.1 90 (29 + 3 * h + 2)) else 1000 / (6 * m.1 90 (29 + 3 * h + 2)) + 1000 / (6 * m.1 90 (29 + 3 * h + 2)) / 2) else 0) else m.1 r (24 + 2 * h + 1)) 1 0)) (vc_wp (T := TT [(180, S180), (181, S181), (196, S196)]) (TTc t180 (TTc t181 (TTc t196 TTn))) (fun p => p == 2) (rt0 := none) rfl c195 rfl ?_) ?_
    · simp only [i195, wp_iinc, wpE0, wpE1, wpE2, wpE3, wpE4, wpE5, wpJ, okS, lt4S, popR, litS, Int32.reduceLT, Int32.reduceLE, List.getElem?_cons_zero, List.getElem?_cons_succ, Bool.false_eq_true, ↓reduceIte, Nat.reduceMod, Nat.reduceDiv, Nat.reduceAdd, Nat.reduceSub, Nat.reduceMul, Nat.reduceLeDiff, Nat.reduceEqDiff, Nat.reduceBEq, Int.reduceToNat, Int.reduceAdd, Int32.reduceOfInt, Int64.reduceOfInt, Int32.reduceToNatClampNeg, Int32.reduceOfNat, Bool.or_self, Bool.or_false, Bool.false_or, Bool.true_or, Bool.or_true, true_and, and_true, false_and, and_false, List.set_cons_zero, List.set_cons_succ, List.take_succ_cons, List.take_zero, List.drop_succ_cons, List.drop_zero, List.reverse_cons, List.reverse_nil, List.nil_append, List.cons_append, List.length_cons, List.length_nil, Option.toList_some, Option.toList_none, not_true_eq_false, not_false_eq_true, forall_const, true_implies, false_implies, nrw, TTS, s180, s181, s196, s174, i180, i181, i196, i174, shM, isRl, and01, bI_0, linS, nI_add, clN, inN, inLS, shR hr, neR hr, hr, hn, hb, hL, subS, true_and, and_true, or_false]
      rw [sm2_0, xa_id]
    refine vc_for (ix (m.1 90 4)) (fun i => [.ref 86, .ref r, .int (nI j), .int (nI i), .null]) (fun i => xa m r (sm2 (m.1 r) (fun h => if m.1 90 (29 + 3 * h + 0) = nI j ∧ (¬ m.1 r (24 + 2 * h) = 0 ∨ m.1 r (4 * j + 0) = 4) then (if 0 ≤ m.1 r (24 + 2 * h + 1) - (if 10 ≤ m.1 90 0 then 1000 / (6 * m.1 90 (29 + 3 * h + 2)) else 1000 / (6 * m.1 90 (29 + 3 * h + 2)) + 1000 / (6 * m.1 90 (29 + 3 * h + 2)) / 2) then m.1 r (24 + 2 * h + 1) - (if 10 ≤ m.1 90 0 then 1000 / (6 * m.1 90 (29 + 3 * h + 2)) else 1000 / (6 * m.1 90 (29 + 3 * h + 2)) + 1000 / (6 * m.1 90 (29 + 3 * h + 2)) / 2) else 0) else m.1 r (24 + 2 * h + 1)) 1 i)) (fun i hi => ?_) ?_
    · refine vc_wp (T := TT [(180, S180), (181, S181), (196, S196)]) (TTc t180 (TTc t181 (TTc t196 TTn))) (fun _ => false) (rt0 := none) rfl (ckl_drop 2 c195) rfl ?_
      have hi2 : ¬ ix (m.1 90 4) ≤ i := by omega
      have hi12 : i < 12 := by have := ix_max (k := 12) hn (by decide); omega
      have hL1 := hL i hi
      simp (disch := omega) only [List.drop, i195, wp_iinc, wpE0, wpE1, wpE2, wpE3, wpE4, wpE5, wpJ, okS, lt4S, popR, litS, Int32.reduceLT, Int32.reduceLE, List.getElem?_cons_zero, List.getElem?_cons_succ, Bool.false_eq_true, ↓reduceIte, Nat.reduceMod, Nat.reduceDiv, Nat.reduceAdd, Nat.reduceSub, Nat.reduceMul, Nat.reduceLeDiff, Nat.reduceEqDiff, Nat.reduceBEq, Int.reduceToNat, Int.reduceAdd, Int32.reduceOfInt, Int64.reduceOfInt, Int32.reduceToNatClampNeg, Int32.reduceOfNat, Bool.or_self, Bool.or_false, Bool.false_or, Bool.true_or, Bool.or_true, true_and, and_true, false_and, and_false, List.set_cons_zero, List.set_cons_succ, List.take_succ_cons, List.take_zero, List.drop_succ_cons, List.drop_zero, List.reverse_cons, List.reverse_nil, List.nil_append, List.cons_append, List.length_cons, List.length_nil, Option.toList_some, Option.toList_none, not_true_eq_false, not_false_eq_true, forall_const, true_implies, false_implies, nrw, TTS, s180, s181, s196, s174, i180, i181, i196, i174, shM, isRl, and01, bI_0, linS, nI_add, clN, inN, inLS, shR hr, neR hr, hr, hn, hb, hL, subS, xa_1, xa_2, xa_xa, sm2_i0, sm2_i1, sm2_p, sm2_lo,  ix_le _ (show i < 2 ^ 31 by omega), hi2, not_true_eq_false, not_false_eq_true, and_true, true_and, and_false, false_and, and_self, or_true, true_or, or_false, false_or, ↓reduceIte, if_true, if_false, eq_self, nI_1]
      try simp only [hL1, not_true_eq_false, not_false_eq_true, and_true, true_and, and_false, false_and, and_self, or_true, true_or, or_false, false_or, ↓reduceIte, if_true, if_false, eq_self]
      repeat' (first | apply And.intro | intro _)
      all_goals first | (rw [sm2_s (d := 1) (j := 24 + 2 * i + 1) rfl (by simp only [*, not_true_eq_false, not_false_eq_true, and_true, true_and, and_false, false_and, and_self, or_true, true_or, or_false, false_or, ↓reduceIte, if_true, if_false, eq_self])]; done) | (rw [← sm2_k (d := 1) (j := 24 + 2 * i + 1) rfl (by simp only [*, not_true_eq_false, not_false_eq_true, and_true, true_and, and_false, false_and, and_self, or_true, true_or, or_false, false_or, ↓reduceIte, if_true, if_false, eq_self])]; done)
    · refine vc_wp (T := TT [(180, S180), (181, S181), (196, S196)]) (TTc t180 (TTc t181 (TTc t196 TTn))) (fun _ => false) (rt0 := none) rfl (ckl_drop 2 c195) rfl ?_
      have hi2 : ix (m.1 90 4) ≤ ix (m.1 90 4) := Nat.le_refl _
      have hi12 : ix (m.1 90 4) < 2 ^ 31 := by have := ix_max (k := 12) hn (by decide); omega
      simp (disch := omega) only [List.drop, i195, wp_iinc, wpE0, wpE1, wpE2, wpE3, wpE4, wpE5, wpJ, okS, lt4S, popR, litS, Int32.reduceLT, Int32.reduceLE, List.getElem?_cons_zero, List.getElem?_cons_succ, Bool.false_eq_true, ↓reduceIte, Nat.reduceMod, Nat.reduceDiv, Nat.reduceAdd, Nat.reduceSub, Nat.reduceMul, Nat.reduceLeDiff, Nat.reduceEqDiff, Nat.reduceBEq, Int.reduceToNat, Int.reduceAdd, Int32.reduceOfInt, Int64.reduceOfInt, Int32.reduceToNatClampNeg, Int32.reduceOfNat, Bool.or_self, Bool.or_false, Bool.false_or, Bool.true_or, Bool.or_true, true_and, and_true, false_and, and_false, List.set_cons_zero, List.set_cons_succ, List.take_succ_cons, List.take_zero, List.drop_succ_cons, List.drop_zero, List.reverse_cons, List.reverse_nil, List.nil_append, List.cons_append, List.length_cons, List.length_nil, Option.toList_some, Option.toList_none, not_true_eq_false, not_false_eq_true, forall_const, true_implies, false_implies, nrw, TTS, s180, s181, s196, s174, i180, i181, i196, i174, shM, isRl, and01, bI_0, linS, nI_add, clN, inN, inLS, shR hr, neR hr, hr, hn, hb, hL, subS, xa_1,  ix_le _ hi12, hi2, not_true_eq_false, not_false_eq_true, and_true, true_and, and_false, false_and, and_self, or_true, true_or, or_false, false_or, ↓reduceIte, if_true, if_false, eq_self]
      exact h
end
section
/-- counts -/
def cnt (p : Nat → Prop) [DecidablePred p] : Nat → Nat
  | 0 => 0
  | n + 1 => cnt p n + if p n then 1 else 0
theorem cnt_le (p : Nat → Prop) [DecidablePred p] : ∀ n, cnt p n ≤ n
  | 0 => Nat.le_refl 0
  | n + 1 => by
    have := cnt_le p n
    unfold cnt
    split <;> omega
theorem fd_cnt (p : Nat → Prop) [DecidablePred p] : ∀ n, fd (fun h => if p h then 1 else 0) n = nI (cnt p n)
  | 0 => rfl
  | n + 1 => by
    unfold fd cnt
    rw [fd_cnt p n]
    by_cases h : p n
    · rw [if_pos h, if_pos h]; exact nI_add _ 1
    · rw [if_neg h, if_neg h]; exact nI_add _ 0
theorem cnt_0 (p : Nat → Prop) [DecidablePred p] : ∀ n, cnt p n = 0 ↔ ¬ ∃ h, h < n ∧ p h
  | 0 => by simp [cnt]
  | n + 1 => by
    have ih := cnt_0 p n
    unfold cnt
    by_cases hp : p n
    · rw [if_pos hp]
      exact ⟨fun q => by omega, fun q => absurd ⟨n, by omega, hp⟩ q⟩
    · rw [if_neg hp]
      refine ⟨fun q ⟨h, h2, h3⟩ => ?_, fun q => ih.mpr fun ⟨h, h2, h3⟩ => q ⟨h, by omega, h3⟩⟩
      by_cases e : h = n
      · rw [e] at h3; exact hp h3
      · exact ih.mp q ⟨h, by omega, h3⟩
theorem nI_z2 {q : Nat} (h : q < 2 ^ 31) : nI q ≤ 0 ↔ nI q = 0 := by
  have e1 := nI_leI (a := q) (b := 0) h (by omega)
  have e2 := nI_eq (a := q) (b := 0) h (by omega)
  rw [show (0 : Int32) = nI 0 from rfl, e1, e2]
  omega
theorem nI_z {q : Nat} (h : q < 2 ^ 31) : nI q = 0 ↔ q = 0 := by
  have e2 := nI_eq (a := q) (b := 0) h (by omega)
  rw [show (0 : Int32) = nI 0 from rfl, e2]
theorem able_cnt (k : KK) (X : X6) (b p : Int32) : aAble k X b p = nI (cnt (fun h => kBo k h = b ∧ xSp X h = p ∧ ¬ xGr X h ≤ 0) (ix (kNh k))) := fd_cnt _ _
theorem able_le {k : KK} {X : X6} {b p : Int32} (hn : kNh k ≤ 12) : aAble k X b p ≤ 0 ↔ aAble k X b p = 0 := by
  rw [able_cnt]
  have h1 := cnt_le (fun h => kBo k h = b ∧ xSp X h = p ∧ ¬ xGr X h ≤ 0) (ix (kNh k))
  have h2 : ix (kNh k) ≤ 12 := ix_max (k := 12) hn (by decide)
  generalize cnt (fun h => kBo k h = b ∧ xSp X h = p ∧ ¬ xGr X h ≤ 0) (ix (kNh k)) = zq at h1
  exact nI_z2 (by omega)
theorem fl_able {k : KK} {X : X6} {K f : Nat → Int32} (hk : EK k K) (hx : E6 (ix (K 4)) X f) (hn : K 4 ≤ 12) (b p : Int32) : fd (fun h => if K (29 + 3 * h + 0) = b ∧ f (24 + 2 * h) = p ∧ ¬ f (24 + 2 * h + 1) ≤ 0 then 1 else 0) (ix (K 4)) = aAble k X b p := by
  unfold aAble
  rw [hk.1.2.2.2.2]
  have h2 : ix (K 4) ≤ 12 := ix_max (k := 12) hn (by decide)
  exact fd_c fun i hi => by simp only [(hk.2.2 i (by omega)).1, (hx.2 i (by omega)).1, (hx.2 i (by omega)).2]
theorem fl_in {k : KK} {X : X6} {K f : Nat → Int32} (hk : EK k K) (hx : E6 (ix (K 4)) X f) (hn : K 4 ≤ 12) (b : Int32) : fd (fun h => if K (29 + 3 * h + 0) = b ∧ f (24 + 2 * h) = 0 then K (29 + 3 * h + 1) else 0) (ix (K 4)) = aIn k X b := by
  unfold aIn
  rw [hk.1.2.2.2.2]
  have h2 : ix (K 4) ≤ 12 := ix_max (k := 12) hn (by decide)
  exact fd_c fun i hi => by simp only [(hk.2.2 i (by omega)).1, (hk.2.2 i (by omega)).2.1, (hx.2 i (by omega)).1]
theorem fl_lever {k : KK} {X : X6} {K f : Nat → Int32} (hk : EK k K) (hx : E6 (ix (K 4)) X f) (hn : K 4 ≤ 12) {b : Int32} (hbb : ix b < ix (K 3)) : fd (fun h => if K (29 + 3 * h + 0) = b ∧ f (24 + 2 * h) = 2 ∧ ¬ f (24 + 2 * h + 1) ≤ 0 then K (29 + 3 * h + 1) else 0) (ix (K 4)) * K (5 + 4 * ix b + 0) / 10 = aLever k X b := by
  unfold aLever aBoard
  rw [hk.1.2.2.2.2, (hk.2.1 (ix b) hbb).1]
  have h2 : ix (K 4) ≤ 12 := ix_max (k := 12) hn (by decide)
  have e : fd (fun h => if kBo k h = b ∧ xSp X h = 2 ∧ ¬ xGr X h ≤ 0 then kWe k h else 0) (ix (K 4)) = fd (fun h => if K (29 + 3 * h + 0) = b ∧ f (24 + 2 * h) = 2 ∧ ¬ f (24 + 2 * h + 1) ≤ 0 then K (29 + 3 * h + 1) else 0) (ix (K 4)) := fd_c fun i hi => by simp only [(hk.2.2 i (by omega)).1, (hk.2.2 i (by omega)).2.1, (hx.2 i (by omega)).1, (hx.2 i (by omega)).2]
  rw [e]
theorem fl_bow {k : KK} {X : X6} {K f : Nat → Int32} (hk : EK k K) (hx : E6 (ix (K 4)) X f) (hn : K 4 ≤ 12) (b : Int32) : (anB (fun h => decide (K (29 + 3 * h + 0) = b ∧ f (24 + 2 * h) = 3 ∧ ¬ f (24 + 2 * h + 1) ≤ 0)) (ix (K 4)) = 0) = (aAble k X b 3 = 0) := by
  rw [← fl_able hk hx hn, fd_cnt]
  have h2 : ix (K 4) ≤ 12 := ix_max (k := 12) hn (by decide)
  have h1 := cnt_le (fun h => K (29 + 3 * h + 0) = b ∧ f (24 + 2 * h) = 3 ∧ ¬ f (24 + 2 * h + 1) ≤ 0) (ix (K 4))
  have h3 := cnt_0 (fun h => K (29 + 3 * h + 0) = b ∧ f (24 + 2 * h) = 3 ∧ ¬ f (24 + 2 * h + 1) ≤ 0) (ix (K 4))
  apply propext
  rw [anB_ex, nI_z (by omega), h3]
  simp only [decide_eq_true_eq]
theorem fl_need {k : KK} {X : X6} {K f : Nat → Int32} (hk : EK k K) (hx : E6 (ix (K 4)) X f) (hn : K 4 ≤ 12) {b : Int32} (hb : vp_in b 6) (hbb : ix b < ix (K 3)) {z : Int32} (hz : (z = 0) = (aAble k X b 3 = 0)) : 10 * K (5 + 4 * ix b + 1) + f (4 * ix b + 1) + (if z = 0 then 2 * K 1 else 0) = aNeed k X b := by
  have hn2 : kNh k ≤ 12 := by rw [hk.1.2.2.2.2]; exact hn
  unfold aNeed
  rw [(hk.2.1 (ix b) hbb).2.1, (hx.1 (ix b) (xin_lt hb).2).2.1, hk.1.2.1]
  by_cases e : z = 0
  · rw [if_pos e, if_pos (able_le hn2 |>.mpr (hz ▸ e))]
  · rw [if_neg e, if_neg (fun q => e (hz ▸ (able_le hn2 |>.mp q)))]
theorem e_send {k : KK} {X : X6} {K f f0 : Nat → Int32} (hk : EK k K) (hx : E6 (ix (K 4)) X f) (hn : K 4 ≤ 12) (b u t : Int32) (hf : ∀ h, h < 12 → f (24 + 2 * h) = f0 (24 + 2 * h)) : E6 (ix (K 4)) (aSend k X b u t) (sm2 f (fun h => if K (29 + 3 * h + 0) = b ∧ f0 (24 + 2 * h) = u then t else f0 (24 + 2 * h)) 0 (ix (K 4))) := by
  have h2 : ix (K 4) ≤ 12 := ix_max (k := 12) hn (by decide)
  unfold aSend
  rw [hk.1.2.2.2.2]
  exact e_sp hx h2 fun i hi => by simp only [(hk.2.2 i (by omega)).1, (hx.2 i (by omega)).1, hf i (by omega)]

def S178b (k : KK) (X : X6) (as : List Value) (m : xM) (Q : xQt) : Prop := match as with
  | [.ref o, .ref r, .int b] => (o = 86) ∧ (isR r) ∧ (m.1 90 4 ≤ 12) ∧ (vp_in b 6) ∧ (EK k (m.1 90)) ∧ (E6 (ix (m.1 90 4)) X (m.1 r)) ∧ ∀ F, E6 (ix (m.1 90 4)) (aCap k X b) F → F 48 = m.1 r 48 → Q none (xa m r F)
  | _ => False
theorem s178b (k : KK) (X : X6) (o : Nat) (r : Nat) (b : Int32) (m : xM) (Q : xQt) : S178b k X [.ref o, .ref r, .int b] m Q = ((o = 86) ∧ (isR r) ∧ (m.1 90 4 ≤ 12) ∧ (vp_in b 6) ∧ (EK k (m.1 90)) ∧ (E6 (ix (m.1 90 4)) X (m.1 r)) ∧ ∀ F, E6 (ix (m.1 90 4)) (aCap k X b) F → F 48 = m.1 r 48 → Q none (xa m r F)) := rfl
theorem t178b {G : xG} (k : KK) (X : X6) : ∀ as m Q, S178b k X as m Q → Tri G 178 as m Q := by
  intro as m Q h
  match as, h with
  | [.ref o, .ref r, .int b], h =>
    obtain ⟨rfl, hr, hn, hb, hk, hx, h⟩ := h
    obtain ⟨j, hj, rfl⟩ := vp_in_of hb (by decide)
    have hbj : ix (nI j) = j := clN (by omega)
    refine tri_wp (T := TT [(179, S179)]) (ls := [.ref 86, .ref r, .int (nI j)]) (TTc (t179) TTn) c178 (by decide +kernel) (rt0 := none) rfl rfl (Nat.le_of_ble_eq_true rfl) rfl ?_
    simp (disch := omega) only [i178, wp_iinc, wpE0, wpE1, wpE2, wpE3, wpE4, wpE5, wpJ, okS, lt4S, popR, litS, Int32.reduceLT, Int32.reduceLE, List.getElem?_cons_zero, List.getElem?_cons_succ, Bool.false_eq_true, ↓reduceIte, Nat.reduceMod, Nat.reduceDiv, Nat.reduceAdd, Nat.reduceSub, Nat.reduceMul, Nat.reduceLeDiff, Nat.reduceEqDiff, Nat.reduceBEq, Int.reduceToNat, Int.reduceAdd, Int32.reduceOfInt, Int64.reduceOfInt, Int32.reduceToNatClampNeg, Int32.reduceOfNat, Bool.or_self, Bool.or_false, Bool.false_or, Bool.true_or, Bool.or_true, true_and, and_true, false_and, and_false, List.set_cons_zero, List.set_cons_succ, List.take_succ_cons, List.take_zero, List.drop_succ_cons, List.drop_zero, List.reverse_cons, List.reverse_nil, List.nil_append, List.cons_append, List.length_cons, List.length_nil, Option.toList_some, Option.toList_none, not_true_eq_false, not_false_eq_true, forall_const, true_implies, false_implies, nrw, TTS, s179, shM, isRl, and01, bI_0, linS, nI_add, clN, inN, inLS, xa_1, xa_2, xa_xa, neR hr, upd_ne, shR hr, hr, hn, hb, hk, hx]
    have zn : ix (m.1 90 4) ≤ 12 := ix_max (k := 12) hn (by decide)
    refine h _ ?_ ?_
    · unfold aCap
      have e : ix (nI j) = j := clN (by omega)
      have hsi : X.2.2.2.1 j = m.1 r (4 * j + 3) := (hx.1 j hj).2.2.2
      rw [e, hsi]
      exact e_send hk (e_si (e_wa (e_ma (e_ho hx hj) hj) hj) hj) hn (nI j) 0 1 (fun h hh => by simp (disch := omega) only [upd_ne])
    · simp (disch := omega) only [sm2_hi, upd_ne]

theorem e_chill {k : KK} {X : X6} {K f : Nat → Int32} (hk : EK k K) (hx : E6 (ix (K 4)) X f) (hn : K 4 ≤ 12) {b : Int32} (hb : vp_in b 6) (hL : ∀ h, h < ix (K 4) → 1 ≤ 6 * K (29 + 3 * h + 2)) (hg : ∀ h, h < 12 → ∀ z : Int32, (0 < xGr X h - z) = (0 ≤ xGr X h - z ∧ ¬ xGr X h - z = 0)) : E6 (ix (K 4)) (aChill k X b) (sm2 f (fun h => if K (29 + 3 * h + 0) = b ∧ (¬ f (24 + 2 * h) = 0 ∨ f (4 * ix b + 0) = 4) then (if 0 ≤ f (24 + 2 * h + 1) - (if 10 ≤ K 0 then 1000 / (6 * K (29 + 3 * h + 2)) else 1000 / (6 * K (29 + 3 * h + 2)) + 1000 / (6 * K (29 + 3 * h + 2)) / 2) then f (24 + 2 * h + 1) - (if 10 ≤ K 0 then 1000 / (6 * K (29 + 3 * h + 2)) else 1000 / (6 * K (29 + 3 * h + 2)) + 1000 / (6 * K (29 + 3 * h + 2)) / 2) else 0) else f (24 + 2 * h + 1)) 1 (ix (K 4))) := by
  have h2 : ix (K 4) ≤ 12 := ix_max (k := 12) hn (by decide)
  unfold aChill
  rw [hk.1.2.2.2.2]
  refine e_gr hx h2 fun i hi => ?_
  have hbi := (xin_lt hb).2
  have hc : aCold k i = (if 10 ≤ K 0 then 1000 / (6 * K (29 + 3 * i + 2)) else 1000 / (6 * K (29 + 3 * i + 2)) + 1000 / (6 * K (29 + 3 * i + 2)) / 2) := by
    unfold aCold
    rw [(hk.2.2 i (by omega)).2.2, hk.1.1, if_pos (hL i hi)]
  rw [hc, (hk.2.2 i (by omega)).1, (hx.2 i (by omega)).1, (hx.1 (ix b) hbi).1]
  have hg1 := hg i (by omega) (if 10 ≤ K 0 then 1000 / (6 * K (29 + 3 * i + 2)) else 1000 / (6 * K (29 + 3 * i + 2)) + 1000 / (6 * K (29 + 3 * i + 2)) / 2)
  rw [(hx.2 i (by omega)).2] at hg1 ⊢
  by_cases zc : K (29 + 3 * i + 0) = b ∧ (¬ f (24 + 2 * i) = 0 ∨ f (4 * ix b + 0) = 4)
  · rw [if_pos zc, if_pos zc]
    simp only [hg1]
    by_cases z1 : 0 ≤ f (24 + 2 * i + 1) - (if 10 ≤ K 0 then 1000 / (6 * K (29 + 3 * i + 2)) else 1000 / (6 * K (29 + 3 * i + 2)) + 1000 / (6 * K (29 + 3 * i + 2)) / 2)
    · by_cases z2 : f (24 + 2 * i + 1) - (if 10 ≤ K 0 then 1000 / (6 * K (29 + 3 * i + 2)) else 1000 / (6 * K (29 + 3 * i + 2)) + 1000 / (6 * K (29 + 3 * i + 2)) / 2) = 0
      · rw [if_neg (fun q => q.2 z2), if_pos z1, z2]
      · rw [if_pos ⟨z1, z2⟩, if_pos z1]
    · rw [if_neg (fun q => z1 q.1), if_neg z1]
  · rw [if_neg zc, if_neg zc]
theorem pos_iff (z : Int32) : (0 < z) = (0 ≤ z ∧ ¬ z = 0) := by
  apply propext
  rw [Int32.lt_iff_toInt_lt, Int32.le_iff_toInt_le, ← Int32.toInt_inj]
  have : (0 : Int32).toInt = 0 := by decide
  omega
end
section
def S193b (k : KK) (X : X6) (as : List Value) (m : xM) (Q : xQt) : Prop := match as with
  | [.ref o, .ref r, .int b] => (o = 86) ∧ (isR r) ∧ (m.1 90 4 ≤ 12) ∧ (vp_in b 6) ∧ (ix b < ix (m.1 90 3)) ∧ (EK k (m.1 90)) ∧ (E6 (ix (m.1 90 4)) X (m.1 r)) ∧ Q (some (.int (aLever k X b))) m
  | _ => False
theorem s193b (k : KK) (X : X6) (o : Nat) (r : Nat) (b : Int32) (m : xM) (Q : xQt) : S193b k X [.ref o, .ref r, .int b] m Q = ((o = 86) ∧ (isR r) ∧ (m.1 90 4 ≤ 12) ∧ (vp_in b 6) ∧ (ix b < ix (m.1 90 3)) ∧ (EK k (m.1 90)) ∧ (E6 (ix (m.1 90 4)) X (m.1 r)) ∧ Q (some (.int (aLever k X b))) m) := rfl
theorem t193b {G : xG} (k : KK) (X : X6) : ∀ as m Q, S193b k X as m Q → Tri G 193 as m Q := by
  intro as m Q h
  match as, h with
  | [.ref o, .ref r, .int b], h =>
    obtain ⟨rfl, hr, hn, hb, hbb, hk, hx, h⟩ := h
    exact t193 [.ref 86, .ref r, .int b] m Q ⟨rfl, hr, hn, hb, by rw [fl_lever hk hx hn hbb]; exact h⟩

def S187b (k : KK) (X : X6) (as : List Value) (m : xM) (Q : xQt) : Prop := match as with
  | [.ref o, .ref r, .int b] => (o = 86) ∧ (isR r) ∧ (m.1 90 4 ≤ 12) ∧ (vp_in b 6) ∧ (ix b < ix (m.1 90 3)) ∧ (EK k (m.1 90)) ∧ (E6 (ix (m.1 90 4)) X (m.1 r)) ∧ Q (some (.int (aIn k X b))) m
  | _ => False
theorem s187b (k : KK) (X : X6) (o : Nat) (r : Nat) (b : Int32) (m : xM) (Q : xQt) : S187b k X [.ref o, .ref r, .int b] m Q = ((o = 86) ∧ (isR r) ∧ (m.1 90 4 ≤ 12) ∧ (vp_in b 6) ∧ (ix b < ix (m.1 90 3)) ∧ (EK k (m.1 90)) ∧ (E6 (ix (m.1 90 4)) X (m.1 r)) ∧ Q (some (.int (aIn k X b))) m) := rfl
theorem t187b {G : xG} (k : KK) (X : X6) : ∀ as m Q, S187b k X as m Q → Tri G 187 as m Q := by
  intro as m Q h
  match as, h with
  | [.ref o, .ref r, .int b], h =>
    obtain ⟨rfl, hr, hn, hb, hbb, hk, hx, h⟩ := h
    exact t187 [.ref 86, .ref r, .int b] m Q ⟨rfl, hr, hn, by rw [fl_in hk hx hn]; exact h⟩

def S188b (k : KK) (X : X6) (as : List Value) (m : xM) (Q : xQt) : Prop := match as with
  | [.ref o, .ref r, .int b] => (o = 86) ∧ (isR r) ∧ (m.1 90 4 ≤ 12) ∧ (vp_in b 6) ∧ (ix b < ix (m.1 90 3)) ∧ (EK k (m.1 90)) ∧ (E6 (ix (m.1 90 4)) X (m.1 r)) ∧ Q (some (.int (aAble k X b 0))) m
  | _ => False
theorem s188b (k : KK) (X : X6) (o : Nat) (r : Nat) (b : Int32) (m : xM) (Q : xQt) : S188b k X [.ref o, .ref r, .int b] m Q = ((o = 86) ∧ (isR r) ∧ (m.1 90 4 ≤ 12) ∧ (vp_in b 6) ∧ (ix b < ix (m.1 90 3)) ∧ (EK k (m.1 90)) ∧ (E6 (ix (m.1 90 4)) X (m.1 r)) ∧ Q (some (.int (aAble k X b 0))) m) := rfl
theorem t188b {G : xG} (k : KK) (X : X6) : ∀ as m Q, S188b k X as m Q → Tri G 188 as m Q := by
  intro as m Q h
  match as, h with
  | [.ref o, .ref r, .int b], h =>
    obtain ⟨rfl, hr, hn, hb, hbb, hk, hx, h⟩ := h
    exact t188 [.ref 86, .ref r, .int b] m Q ⟨rfl, hr, hn, by rw [fl_able hk hx hn]; exact h⟩

def S191b (k : KK) (X : X6) (as : List Value) (m : xM) (Q : xQt) : Prop := match as with
  | [.ref o, .ref r, .int b] => (o = 86) ∧ (isR r) ∧ (m.1 90 4 ≤ 12) ∧ (vp_in b 6) ∧ (ix b < ix (m.1 90 3)) ∧ (EK k (m.1 90)) ∧ (E6 (ix (m.1 90 4)) X (m.1 r)) ∧ (∀ z : Int32, (z = 0) = (aAble k X b 3 = 0) → Q (some (.int z)) m)
  | _ => False
theorem s191b (k : KK) (X : X6) (o : Nat) (r : Nat) (b : Int32) (m : xM) (Q : xQt) : S191b k X [.ref o, .ref r, .int b] m Q = ((o = 86) ∧ (isR r) ∧ (m.1 90 4 ≤ 12) ∧ (vp_in b 6) ∧ (ix b < ix (m.1 90 3)) ∧ (EK k (m.1 90)) ∧ (E6 (ix (m.1 90 4)) X (m.1 r)) ∧ (∀ z : Int32, (z = 0) = (aAble k X b 3 = 0) → Q (some (.int z)) m)) := rfl
theorem t191b {G : xG} (k : KK) (X : X6) : ∀ as m Q, S191b k X as m Q → Tri G 191 as m Q := by
  intro as m Q h
  match as, h with
  | [.ref o, .ref r, .int b], h =>
    obtain ⟨rfl, hr, hn, hb, hbb, hk, hx, h⟩ := h
    exact t191 [.ref 86, .ref r, .int b] m Q ⟨rfl, hr, hn, h _ (fl_bow hk hx hn b)⟩

def S192 (as : List Value) (m : xM) (Q : xQt) : Prop := match as with
  | [.ref o, .int a, .int a2, .int a3] => wp (fun _ _ _ _ => False) (fun _ => false) Q (some .int) (TT [(186, S186)]) none i192 [.ref o, .int a, .int a2, .int a3] [] m
  | _ => False
theorem s192 (o : Nat) (a : Int32) (a2 : Int32) (a3 : Int32) (m : xM) (Q : xQt) : S192 [.ref o, .int a, .int a2, .int a3] m Q = wp (fun _ _ _ _ => False) (fun _ => false) Q (some .int) (TT [(186, S186)]) none i192 [.ref o, .int a, .int a2, .int a3] [] m := rfl
theorem t192 {G : xG} : ∀ as m Q, S192 as m Q → Tri G 192 as m Q := by
  intro as m Q h
  match as, h with
  | [.ref o, .int a, .int a2, .int a3], h => exact tri_wp (T := TT [(186, S186)]) (ls := [.ref o, .int a, .int a2, .int a3]) (TTc t186 TTn) c192 (by decide +kernel) (rt0 := some .int) rfl rfl (Nat.le_of_ble_eq_true rfl) rfl h

def S190b (k : KK) (X : X6) (as : List Value) (m : xM) (Q : xQt) : Prop := match as with
  | [.ref o, .ref r, .int b] => (o = 86) ∧ (isR r) ∧ (m.1 90 4 ≤ 12) ∧ (vp_in b 6) ∧ (ix b < ix (m.1 90 3)) ∧ (EK k (m.1 90)) ∧ (E6 (ix (m.1 90 4)) X (m.1 r)) ∧ Q (some (.int (aNeed k X b))) m
  | _ => False
theorem s190b (k : KK) (X : X6) (o : Nat) (r : Nat) (b : Int32) (m : xM) (Q : xQt) : S190b k X [.ref o, .ref r, .int b] m Q = ((o = 86) ∧ (isR r) ∧ (m.1 90 4 ≤ 12) ∧ (vp_in b 6) ∧ (ix b < ix (m.1 90 3)) ∧ (EK k (m.1 90)) ∧ (E6 (ix (m.1 90 4)) X (m.1 r)) ∧ Q (some (.int (aNeed k X b))) m) := rfl
theorem t190b {G : xG} (k : KK) (X : X6) : ∀ as m Q, S190b k X as m Q → Tri G 190 as m Q := by
  intro as m Q h
  match as, h with
  | [.ref o, .ref r, .int b], h =>
    obtain ⟨rfl, hr, hn, hb, hbb, hk, hx, h⟩ := h
    obtain ⟨j, hj, rfl⟩ := vp_in_of hb (by decide)
    have hbj : ix (nI j) = j := clN (by omega)
    rw [hbj] at hbb
    refine tri_wp (T := TT [(191, S191b k X), (192, S192)]) (ls := [.ref 86, .ref r, .int (nI j)]) (TTc (t191b k X) (TTc (t192) TTn)) c190 (by decide +kernel) (rt0 := some .int) rfl rfl (Nat.le_of_ble_eq_true rfl) rfl ?_
    simp (disch := omega) only [i190, wp_iinc, wpE0, wpE1, wpE2, wpE3, wpE4, wpE5, wpJ, okS, lt4S, popR, litS, Int32.reduceLT, Int32.reduceLE, List.getElem?_cons_zero, List.getElem?_cons_succ, Bool.false_eq_true, ↓reduceIte, Nat.reduceMod, Nat.reduceDiv, Nat.reduceAdd, Nat.reduceSub, Nat.reduceMul, Nat.reduceLeDiff, Nat.reduceEqDiff, Nat.reduceBEq, Int.reduceToNat, Int.reduceAdd, Int32.reduceOfInt, Int64.reduceOfInt, Int32.reduceToNatClampNeg, Int32.reduceOfNat, Bool.or_self, Bool.or_false, Bool.false_or, Bool.true_or, Bool.or_true, true_and, and_true, false_and, and_false, List.set_cons_zero, List.set_cons_succ, List.take_succ_cons, List.take_zero, List.drop_succ_cons, List.drop_zero, List.reverse_cons, List.reverse_nil, List.nil_append, List.cons_append, List.length_cons, List.length_nil, Option.toList_some, Option.toList_none, not_true_eq_false, not_false_eq_true, forall_const, true_implies, false_implies, nrw, TTS, s191b, s192, s186, i192, i186, shM, isRl, and01, bI_0, linS, nI_add, clN, inN, inLS, xa_1, xa_2, xa_xa, neR hr, upd_ne, shR hr, hr, hn, hb, hbb, hk, hx]
    intro z hz
    have e := fl_need (b := nI j) hk hx hn hb (by rw [hbj]; exact hbb) hz
    rw [hbj] at e
    refine ⟨fun q => ?_, fun q => ?_⟩
    · rw [if_pos q] at e
      rw [e]; exact h
    · rw [if_neg q] at e
      rw [e]; exact h

def aRnd (k : KK) (X : X6) (b : Int32) : X6 := if xHo X (ix b) = 3 then (upd X.1 (ix b) (if aLever k X b < 3 * aNeed k X b then 3 else 2), X.2) else (if aLever k X b < 2 * aNeed k X b then X else (upd X.1 (ix b) 1, upd X.2.1 (ix b) 50, X.2.2.1, upd X.2.2.2.1 (ix b) (X.2.2.2.1 (ix b) + 1), X.2.2.2.2))
theorem e_id {N : Nat} {X : X6} {f : Nat → Int32} {b : Nat} {v : Int32} (h : E6 N X f) (hb : b < 6) (hv : f (4 * b + 0) = v) : E6 N (upd X.1 b v, X.2) f := by
  refine ⟨fun b' hb' => ?_, h.2⟩
  obtain ⟨h1, h2, h3, h4⟩ := h.1 b' hb'
  refine ⟨?_, h2, h3, h4⟩
  by_cases e : b' = b
  · rw [e]; exact (upd_eq rfl).trans hv.symm
  · exact (upd_ne e).trans h1
theorem upd_id {f : Nat → Int32} {i : Nat} {x : Int32} (h : f i = x) : upd f i x = f := by
  funext q
  by_cases e : q = i
  · rw [upd_eq e, e]; exact h.symm
  · exact upd_ne e
theorem le_nlt {a b : Int32} : (a ≤ b) = ¬ (b < a) := by simp

def S194b (k : KK) (X : X6) (as : List Value) (m : xM) (Q : xQt) : Prop := match as with
  | [.ref o, .ref r, .int b] => (o = 86) ∧ (isR r) ∧ (m.1 90 4 ≤ 12) ∧ (vp_in b 6) ∧ (ix b < ix (m.1 90 3)) ∧ (EK k (m.1 90)) ∧ (E6 (ix (m.1 90 4)) X (m.1 r)) ∧ (∀ F, E6 (ix (m.1 90 4)) (aRnd k X b) F → F 48 = m.1 r 48 → Q none (xa m r F))
  | _ => False
theorem s194b (k : KK) (X : X6) (o : Nat) (r : Nat) (b : Int32) (m : xM) (Q : xQt) : S194b k X [.ref o, .ref r, .int b] m Q = ((o = 86) ∧ (isR r) ∧ (m.1 90 4 ≤ 12) ∧ (vp_in b 6) ∧ (ix b < ix (m.1 90 3)) ∧ (EK k (m.1 90)) ∧ (E6 (ix (m.1 90 4)) X (m.1 r)) ∧ (∀ F, E6 (ix (m.1 90 4)) (aRnd k X b) F → F 48 = m.1 r 48 → Q none (xa m r F))) := rfl
theorem t194b {G : xG} (k : KK) (X : X6) : ∀ as m Q, S194b k X as m Q → Tri G 194 as m Q := by
  intro as m Q h
  match as, h with
  | [.ref o, .ref r, .int b], h =>
    obtain ⟨rfl, hr, hn, hb, hbb, hk, hx, h⟩ := h
    obtain ⟨j, hj, rfl⟩ := vp_in_of hb (by decide)
    have hbj : ix (nI j) = j := clN (by omega)
    rw [hbj] at hbb
    refine tri_wp (T := TT [(190, S190b k X), (193, S193b k X)]) (ls := [.ref 86, .ref r, .int (nI j), .null, .null]) (TTc (t190b k X) (TTc (t193b k X) TTn)) c194 (by decide +kernel) (rt0 := none) rfl rfl (Nat.le_of_ble_eq_true rfl) rfl ?_
    simp (disch := omega) only [i194, wp_iinc, wpE0, wpE1, wpE2, wpE3, wpE4, wpE5, wpJ, okS, lt4S, popR, litS, Int32.reduceLT, Int32.reduceLE, List.getElem?_cons_zero, List.getElem?_cons_succ, Bool.false_eq_true, ↓reduceIte, Nat.reduceMod, Nat.reduceDiv, Nat.reduceAdd, Nat.reduceSub, Nat.reduceMul, Nat.reduceLeDiff, Nat.reduceEqDiff, Nat.reduceBEq, Int.reduceToNat, Int.reduceAdd, Int32.reduceOfInt, Int64.reduceOfInt, Int32.reduceToNatClampNeg, Int32.reduceOfNat, Bool.or_self, Bool.or_false, Bool.false_or, Bool.true_or, Bool.or_true, true_and, and_true, false_and, and_false, List.set_cons_zero, List.set_cons_succ, List.take_succ_cons, List.take_zero, List.drop_succ_cons, List.drop_zero, List.reverse_cons, List.reverse_nil, List.nil_append, List.cons_append, List.length_cons, List.length_nil, Option.toList_some, Option.toList_none, not_true_eq_false, not_false_eq_true, forall_const, true_implies, false_implies, nrw, TTS, s190b, s193b, shM, isRl, and01, bI_0, linS, nI_add, clN, inN, inLS, xa_1, xa_2, xa_xa, neR hr, upd_ne, shR hr, le_nlt, hr, hn, hb, hbb, hk, hx]
    have hho : xHo X j = m.1 r (4 * j + 0) := (hx.1 j hj).1
    have hsi : X.2.2.2.1 j = m.1 r (4 * j + 3) := (hx.1 j hj).2.2.2
    unfold aRnd at h
    rw [hbj] at h
    refine ⟨fun z1 => ⟨fun z2 => ?_, fun z2 => ?_⟩, fun z1 => ⟨fun z2 => ?_, fun z2 => ?_⟩⟩
    · rw [if_pos (hho.trans z1), if_neg z2] at h
      rw [Int32.add_zero, upd_id (f := upd (m.1 r) (4 * j + 0) 2) (i := 4 * j + 1) (upd_ne (by omega)), upd_id (f := upd (m.1 r) (4 * j + 0) 2) (i := 4 * j + 3) (upd_ne (by omega))]
      exact h _ (e_ho hx hj) (upd_ne (by omega))
    · have z3 := Classical.not_not.mp z2
      rw [if_pos (hho.trans z1), if_pos z3] at h
      have h9 := h _ (e_id hx hj z1) rfl
      rw [xa_id] at h9
      exact h9
    · rw [if_neg (fun q => z1 (hho ▸ q)), if_neg z2, hsi] at h
      exact h _ (e_si (e_ma (e_ho hx hj) hj) hj) (by simp (disch := omega) only [upd_ne])
    · have z3 := Classical.not_not.mp z2
      rw [if_neg (fun q => z1 (hho ▸ q)), if_pos z3] at h
      have h9 := h _ hx rfl
      rw [xa_id] at h9
      exact h9

/-- X stays small -/
def xOK (x : Int64) : Prop := 0 ≤ x.toInt ∧ x.toInt < 2147483647
theorem zremL {z n : Int64} (hz : 0 ≤ z.toInt) (hn : 0 < n.toInt) : (z - z / n * n).toInt = z.toInt % n.toInt := by
  obtain ⟨a, ha, rfl⟩ := pk_lOf (x := z) (by rw [Int64.lt_iff_toInt_lt]; simpa using hz)
  obtain ⟨c, hc, rfl⟩ := pk_lOf (x := n) (by rw [Int64.lt_iff_toInt_lt]; simp; omega)
  rw [pk_lT hc] at hn
  rw [pk_lRem ha (by omega) hc, pk_lT ha, pk_lT hc, pk_lT (Nat.lt_of_le_of_lt (Nat.mod_le _ _) ha)]
  omega
theorem draw_ok {x : Int64} (h : xOK x) : xOK (aDraw x) := by
  unfold xOK at h
  have e1 : (x * 16807).toInt = x.toInt * 16807 := by
    rw [fb_mulL (by rw [show (16807 : Int64).toInt = 16807 from by decide]; omega) (by rw [show (16807 : Int64).toInt = 16807 from by decide]; omega)]
    rw [show (16807 : Int64).toInt = 16807 from by decide]
  have e2 := zremL (z := x * 16807) (n := 2147483647) (by rw [e1]; omega) (by decide)
  unfold xOK aDraw
  rw [e2, e1, show (2147483647 : Int64).toInt = 2147483647 from by decide]
  omega
theorem draw_rem {x : Int64} (h : xOK x) {n : Int64} (hn : 0 < n.toInt) (hn2 : n.toInt ≤ 1000) : 0 ≤ (aDraw x - aDraw x / n * n).toInt ∧ (aDraw x - aDraw x / n * n).toInt < n.toInt ∧ (aDraw x - aDraw x / n * n).toInt32.toInt = (aDraw x - aDraw x / n * n).toInt := by
  have h1 := draw_ok h
  unfold xOK at h1
  rw [zremL h1.1 hn]
  have e0 : 0 ≤ (aDraw x).toInt % n.toInt := Int.emod_nonneg _ (by omega)
  have e1 : (aDraw x).toInt % n.toInt < n.toInt := Int.emod_lt_of_pos _ hn
  refine ⟨e0, e1, ?_⟩
  rw [Int64.toInt_toInt32, zremL h1.1 hn, fb_bmod (by omega) (by omega)]
end
section
def S185 (as : List Value) (m : xM) (Q : xQt) : Prop := match as with
  | [.ref o, .int a] => wp (fun _ _ _ _ => False) (fun _ => false) Q (some .int) (TT []) none i185 [.ref o, .int a] [] m
  | _ => False
theorem s185 (o : Nat) (a : Int32) (m : xM) (Q : xQt) : S185 [.ref o, .int a] m Q = wp (fun _ _ _ _ => False) (fun _ => false) Q (some .int) (TT []) none i185 [.ref o, .int a] [] m := rfl
theorem t185 {G : xG} : ∀ as m Q, S185 as m Q → Tri G 185 as m Q := by
  intro as m Q h
  match as, h with
  | [.ref o, .int a], h => exact tri_wp (T := TT []) (ls := [.ref o, .int a]) TTn c185 (by decide +kernel) (rt0 := some .int) rfl rfl (Nat.le_of_ble_eq_true rfl) rfl h

def aSid (k : KK) (X : X6) (b s : Int32) (x : Int64) : X6 × Int64 := if aLever k X b < aNeed k X b then (aFill k X b, x) else aUp k X b s x
theorem litM : ((2147483647 : Int64) = 0) = False ∧ ((100 : Int64) = 0) = False ∧ ((10 : Int64) = 0) = False := by simp
theorem updL_1 (f : Nat → Int64) (j : Nat) (x : Int64) : vp_updL f j x j = x := by simp [vp_updL]
theorem xb_id19 (m : xM) : xb m 86 (vp_updL (m.2 86) 19 (m.2 86 19)) = m := by
  refine Prod.ext rfl (funext fun q => ?_)
  show (if q = 86 then _ else m.2 q) = m.2 q
  by_cases h : q = 86
  · subst h
    rw [if_pos rfl]
    funext i
    simp only [vp_updL]
    by_cases hi : i = 19
    · subst hi; simp
    · rw [if_neg hi]
  · rw [if_neg h]
theorem anti32 {a b : Int32} (h1 : ¬ a < b) (h2 : ¬ b < a) : a = b := by
  rw [Int32.lt_iff_toInt_lt] at h1 h2
  rw [← Int32.toInt_inj]
  omega
theorem e_fill {k : KK} {X : X6} {K f : Nat → Int32} {j : Nat} (hk : EK k K) (hx : E6 (ix (K 4)) X f) (hj : j < 6) (hbj : ix (nI j) = j) (hbb : j < ix (K 3)) (hh1 : f (4 * j + 0) = 1) (hmu : K 2 = 0 ∨ K 2 = 1) : E6 (ix (K 4)) (aFill k X (nI j)) (upd (upd f (4 * j + 1) (if f (4 * j + 1) + 20 - K (5 + 4 * j + 3) < 100 then f (4 * j + 1) + 20 - K (5 + 4 * j + 3) else 100)) (4 * j + 0) (if f (4 * j + 1) + 20 - K (5 + 4 * j + 3) < 100 then 1 else if K 2 = 1 then 3 else 2)) := by
  have hM : aFillM k X (nI j) = (if f (4 * j + 1) + 20 - K (5 + 4 * j + 3) < 100 then f (4 * j + 1) + 20 - K (5 + 4 * j + 3) else 100) := by
    unfold aFillM
    rw [hbj, (hx.1 j hj).2.1, (hk.2.1 j hbb).2.2.2]
  unfold aFill
  rw [hM, hbj, hk.1.2.2.1]
  by_cases zl : f (4 * j + 1) + 20 - K (5 + 4 * j + 3) < 100
  · rw [if_pos zl, if_pos zl, if_neg (fun q => by rw [q] at zl; exact absurd zl (by decide)), upd_id (f := upd f (4 * j + 1) _) (i := 4 * j + 0) ((upd_ne (by omega)).trans hh1)]
    exact e_ma hx hj
  · rw [if_neg zl, if_neg zl, if_pos rfl]
    have ev : (if K 2 = 0 then (2 : Int32) else 3) = (if K 2 = 1 then 3 else 2) := by rcases hmu with h | h <;> rw [h] <;> decide
    rw [ev]
    exact e_ho (e_ma hx hj) hj
theorem le_64 {a : Int32} {y : Int64} (h : y.toInt32.toInt = y.toInt) : (a.toInt64 ≤ y) = (a ≤ y.toInt32) := by
  apply propext
  rw [Int64.le_iff_toInt_le, Int32.le_iff_toInt_le, h, Int32.toInt_toInt64]

def S189b (k : KK) (X : X6) (s : Int32) (as : List Value) (m : xM) (Q : xQt) : Prop := match as with
  | [.ref o, .ref r, .int b, .int dw] => (o = 86) ∧ (isR r) ∧ (m.1 90 4 ≤ 12) ∧ (vp_in b 6) ∧ (ix b < ix (m.1 90 3)) ∧ (EK k (m.1 90)) ∧ (E6 (ix (m.1 90 4)) X (m.1 r)) ∧ (m.1 r (4 * ix b + 0) = 1) ∧ (m.1 90 2 = 0 ∨ m.1 90 2 = 1) ∧ (xOK (m.2 86 19)) ∧ (0 ≤ (m.1 90 1).toInt ∧ (m.1 90 1).toInt ≤ 40) ∧ ((s = 0) = (¬ dw = 0)) ∧ (∀ F, E6 (ix (m.1 90 4)) (aSid k X b s (m.2 86 19)).1 F → F 48 = m.1 r 48 → Q none (xa (xb m 86 (vp_updL (m.2 86) 19 (aSid k X b s (m.2 86 19)).2)) r F))
  | _ => False
theorem s189b (k : KK) (X : X6) (s : Int32) (o : Nat) (r : Nat) (b : Int32) (dw : Int32) (m : xM) (Q : xQt) : S189b k X s [.ref o, .ref r, .int b, .int dw] m Q = ((o = 86) ∧ (isR r) ∧ (m.1 90 4 ≤ 12) ∧ (vp_in b 6) ∧ (ix b < ix (m.1 90 3)) ∧ (EK k (m.1 90)) ∧ (E6 (ix (m.1 90 4)) X (m.1 r)) ∧ (m.1 r (4 * ix b + 0) = 1) ∧ (m.1 90 2 = 0 ∨ m.1 90 2 = 1) ∧ (xOK (m.2 86 19)) ∧ (0 ≤ (m.1 90 1).toInt ∧ (m.1 90 1).toInt ≤ 40) ∧ ((s = 0) = (¬ dw = 0)) ∧ (∀ F, E6 (ix (m.1 90 4)) (aSid k X b s (m.2 86 19)).1 F → F 48 = m.1 r 48 → Q none (xa (xb m 86 (vp_updL (m.2 86) 19 (aSid k X b s (m.2 86 19)).2)) r F))) := rfl
theorem t189b {G : xG} (k : KK) (X : X6) (s : Int32) : ∀ as m Q, S189b k X s as m Q → Tri G 189 as m Q := by
  intro as m Q h
  match as, h with
  | [.ref o, .ref r, .int b, .int dw], h =>
    obtain ⟨rfl, hr, hn, hb, hbb, hk, hx, hh1, hmu, hxo, hwi, hs, h⟩ := h
    obtain ⟨j, hj, rfl⟩ := vp_in_of hb (by decide)
    have hbj : ix (nI j) = j := clN (by omega)
    rw [hbj] at hbb
    refine tri_vc (ls := [.ref 86, .ref r, .int (nI j), .int dw, .null, .null]) (by decide +kernel) rfl (Nat.le_of_ble_eq_true rfl) ?_
    have zn : ix (m.1 90 4) ≤ 12 := ix_max (k := 12) hn (by decide)
    rw [hbj] at hh1
    refine vc_cut 60 [.ref 86, .ref r, .int (nI j), .int dw, .null, .null] (fun m1 => ¬ aLever k X (nI j) < aNeed k X (nI j) ∧ ∃ F1, m1 = xa m r F1 ∧ E6 (ix (m.1 90 4)) (aUp1 k X (nI j)) F1 ∧ F1 48 = m.1 r 48) (vc_wp (T := TT [(190, S190b k X), (193, S193b k X), (186, S186), (179, S179), (185, S185), (191, S191b k (aUp1 k X (nI j))), (178, S178b k (aUp1 k X (nI j)))]) (TTc (t190b k X) (TTc (t193b k X) (TTc (t186) (TTc (t179) (TTc (t185) (TTc (t191b k (aUp1 k X (nI j))) (TTc (t178b k (aUp1 k X (nI j))) TTn))))))) (fun p => p == 60) (rt0 := none) rfl c189 rfl ?_) ?_
    · simp (disch := omega) only [i189, wp_iinc, wpE0, wpE1, wpE2, wpE3, wpE4, wpE5, wpJ, okS, lt4S, popR, litS, Int32.reduceLT, Int32.reduceLE, List.getElem?_cons_zero, List.getElem?_cons_succ, Bool.false_eq_true, ↓reduceIte, Nat.reduceMod, Nat.reduceDiv, Nat.reduceAdd, Nat.reduceSub, Nat.reduceMul, Nat.reduceLeDiff, Nat.reduceEqDiff, Nat.reduceBEq, Int.reduceToNat, Int.reduceAdd, Int32.reduceOfInt, Int64.reduceOfInt, Int32.reduceToNatClampNeg, Int32.reduceOfNat, Bool.or_self, Bool.or_false, Bool.false_or, Bool.true_or, Bool.or_true, true_and, and_true, false_and, and_false, List.set_cons_zero, List.set_cons_succ, List.take_succ_cons, List.take_zero, List.drop_succ_cons, List.drop_zero, List.reverse_cons, List.reverse_nil, List.nil_append, List.cons_append, List.length_cons, List.length_nil, Option.toList_some, Option.toList_none, not_true_eq_false, not_false_eq_true, forall_const, true_implies, false_implies, nrw, TTS, s190b, s193b, s186, s179, s185, s191b, s178b, i186, i185, shM, isRl, and01, bI_0, linS, nI_add, clN, inN, inLS, xa_1, xa_2, xa_xa, neR hr, upd_ne, shR hr, xb_1, xb_2, xb_xa, updL_1, litM, i2lS, le_nlt, hr, hn, hb, hbb, hk, hx, hh1, hmu, hxo, hwi, hs, subS, not_true_eq_false, not_false_eq_true, and_true, true_and, and_false, false_and, and_self, or_true, true_or, or_false, false_or, ↓reduceIte, if_true, if_false, eq_self]
      refine ⟨fun z0 => ?_, fun z0 => ⟨z0, _, rfl, ?_, ?_⟩⟩
      · unfold aSid at h
        rw [if_pos z0] at h
        simp only [xb_id19] at h
        have key := e_fill hk hx hj hbj hbb hh1 hmu
        refine ⟨fun z1 => ⟨fun z2 => ⟨fun z3 => ?_, fun z3 => ?_⟩, fun z2 => ?_⟩, fun z1 => ⟨fun z2 => ⟨fun z3 => ?_, fun z3 => ?_⟩, fun z2 => ?_⟩⟩
        · rw [if_neg z2, if_neg z2, if_pos z3] at key
          rw [anti32 z2 z1]
          exact h _ key (by simp (disch := omega) only [upd_ne])
        · rw [if_neg z2, if_neg z2, if_neg z3] at key
          rw [anti32 z2 z1]
          exact h _ key (by simp (disch := omega) only [upd_ne])
        · have z4 := Classical.not_not.mp z2
          rw [if_pos z4, if_pos z4] at key
          exact h _ key (by simp (disch := omega) only [upd_ne])
        · rw [if_neg z2, if_neg z2, if_pos z3] at key
          exact h _ key (by simp (disch := omega) only [upd_ne])
        · rw [if_neg z2, if_neg z2, if_neg z3] at key
          exact h _ key (by simp (disch := omega) only [upd_ne])
        · have z4 := Classical.not_not.mp z2
          have z5 := Classical.not_not.mp z1
          rw [Int32.lt_iff_toInt_lt] at z4 z5
          omega
      · unfold aUp1
        rw [hbj, (hk.2.1 j hbb).2.2.1]
        exact e_send hk (e_ma (e_wa (e_ho hx hj) hj) hj) hn (nI j) 2 0 (fun h hh => by simp (disch := omega) only [upd_ne])
      · simp (disch := omega) only [sm2_hi, upd_ne]
    · rintro m1 ⟨z0, F1, rfl, hF, hF2⟩
      refine vc_wp (T := TT [(190, S190b k X), (193, S193b k X), (186, S186), (179, S179), (185, S185), (191, S191b k (aUp1 k X (nI j))), (178, S178b k (aUp1 k X (nI j)))]) (TTc (t190b k X) (TTc (t193b k X) (TTc (t186) (TTc (t179) (TTc (t185) (TTc (t191b k (aUp1 k X (nI j))) (TTc (t178b k (aUp1 k X (nI j))) TTn))))))) (fun _ => false) (rt0 := none) rfl (ckl_drop 44 c189) rfl ?_
      simp (disch := omega) only [List.drop, i189, wp_iinc, wpE0, wpE1, wpE2, wpE3, wpE4, wpE5, wpJ, okS, lt4S, popR, litS, Int32.reduceLT, Int32.reduceLE, List.getElem?_cons_zero, List.getElem?_cons_succ, Bool.false_eq_true, ↓reduceIte, Nat.reduceMod, Nat.reduceDiv, Nat.reduceAdd, Nat.reduceSub, Nat.reduceMul, Nat.reduceLeDiff, Nat.reduceEqDiff, Nat.reduceBEq, Int.reduceToNat, Int.reduceAdd, Int32.reduceOfInt, Int64.reduceOfInt, Int32.reduceToNatClampNeg, Int32.reduceOfNat, Bool.or_self, Bool.or_false, Bool.false_or, Bool.true_or, Bool.or_true, true_and, and_true, false_and, and_false, List.set_cons_zero, List.set_cons_succ, List.take_succ_cons, List.take_zero, List.drop_succ_cons, List.drop_zero, List.reverse_cons, List.reverse_nil, List.nil_append, List.cons_append, List.length_cons, List.length_nil, Option.toList_some, Option.toList_none, not_true_eq_false, not_false_eq_true, forall_const, true_implies, false_implies, nrw, TTS, s190b, s193b, s186, s179, s185, s191b, s178b, i186, i185, shM, isRl, and01, bI_0, linS, nI_add, clN, inN, inLS, xa_1, xa_2, xa_xa, neR hr, upd_ne, shR hr, xb_1, xb_2, xb_xa, updL_1, litM, i2lS, le_nlt, hr, hn, hb, hbb, hk, hx, hh1, hmu, hxo, hwi, hs, subS, not_true_eq_false, not_false_eq_true, and_true, true_and, and_false, false_and, and_self, or_true, true_or, or_false, false_or, ↓reduceIte, if_true, if_false, eq_self]
      unfold aSid at h
      rw [if_neg z0] at h
      unfold aUp at h
      refine ⟨fun z1 => ?_, fun z1 => ⟨hF, fun z hz => ⟨fun z2 => ?_, fun z2 => ?_⟩⟩⟩
      · rw [if_neg (c := s = 0) (by rw [hs]; exact fun q => q z1)] at h
        simp only [xb_id19] at h
        exact h F1 hF hF2
      · rw [if_pos (c := s = 0) (by rw [hs]; exact z1), if_pos (hz ▸ z2)] at h
        have hd := draw_rem hxo (n := 100) (by decide) (by decide)
        have hc : ((2 * kWi k).toInt64 ≤ aDraw (m.2 86 19) - aDraw (m.2 86 19) / 100 * 100) = (2 * m.1 90 1 ≤ (aDraw (m.2 86 19) - aDraw (m.2 86 19) / 100 * 100).toInt32) := by rw [hk.1.2.1]; exact le_64 hd.2.2
        refine ⟨fun z3 => ?_, fun z3 => ⟨hF, fun F hF3 hF4 => ?_⟩⟩
        · rw [if_pos (by rw [hc, le_nlt]; exact z3)] at h
          exact h F1 hF hF2
        · rw [if_neg (by rw [hc, le_nlt]; exact z3)] at h
          exact h F hF3 (hF4.trans hF2)
      · rw [if_pos (c := s = 0) (by rw [hs]; exact z1), if_neg (fun q => z2 (hz ▸ q))] at h
        simp only [xb_id19] at h
        exact h F1 hF hF2
end
section
theorem le_64m {wi sa st : Int32} {y : Int64} (h1 : 0 ≤ wi.toInt ∧ wi.toInt ≤ 40) (h2 : 0 ≤ sa.toInt ∧ sa.toInt ≤ 30) (h3 : 0 ≤ y.toInt) (h4 : y.toInt < 10) (h5 : y.toInt32.toInt = y.toInt) : ((wi.toInt64 + y) * sa.toInt64 ≤ st.toInt64) = ((wi + y.toInt32) * sa ≤ st) := by
  have e1 : (wi.toInt64 + y).toInt = wi.toInt + y.toInt := by
    rw [fb_addL (by rw [Int32.toInt_toInt64]; omega) (by rw [Int32.toInt_toInt64]; omega), Int32.toInt_toInt64]
  have e2 : (wi + y.toInt32).toInt = wi.toInt + y.toInt := by
    rw [fb_addI (by rw [h5]; omega) (by rw [h5]; omega), h5]
  have p1 : 0 ≤ (wi.toInt + y.toInt) * sa.toInt := Int.mul_nonneg (by omega) h2.1
  have p2 : (wi.toInt + y.toInt) * sa.toInt ≤ 49 * 30 := Int.mul_le_mul (by omega) h2.2 h2.1 (by omega)
  have e3 : ((wi.toInt64 + y) * sa.toInt64).toInt = (wi.toInt + y.toInt) * sa.toInt := by
    rw [fb_mulL (by rw [e1, Int32.toInt_toInt64]; omega) (by rw [e1, Int32.toInt_toInt64]; omega), e1, Int32.toInt_toInt64]
  have e4 : ((wi + y.toInt32) * sa).toInt = (wi.toInt + y.toInt) * sa.toInt := by
    rw [fb_mulI (by rw [e2]; omega) (by rw [e2]; omega), e2]
  apply propext
  rw [Int64.le_iff_toInt_le, Int32.le_iff_toInt_le, e3, e4, Int32.toInt_toInt64]
theorem e_bail {k : KK} {X : X6} {K f : Nat → Int32} {j : Nat} (hk : EK k K) (hx : E6 (ix (K 4)) X f) (hj : j < 6) (hbj : ix (nI j) = j) (hbb : j < ix (K 3)) (hh4 : f (4 * j + 0) = 4) : E6 (ix (K 4)) (aBail k X (nI j)) (upd (upd f (4 * j + 2) (if 0 ≤ f (4 * j + 2) - 5 * aAble k X (nI j) 0 - K (5 + 4 * j + 2) then f (4 * j + 2) - 5 * aAble k X (nI j) 0 - K (5 + 4 * j + 2) else 0)) (4 * j + 0) (if 0 < f (4 * j + 2) - 5 * aAble k X (nI j) 0 - K (5 + 4 * j + 2) then 4 else 0)) := by
  have hW : aBailW k X (nI j) = (if 0 < f (4 * j + 2) - 5 * aAble k X (nI j) 0 - K (5 + 4 * j + 2) then f (4 * j + 2) - 5 * aAble k X (nI j) 0 - K (5 + 4 * j + 2) else 0) := by
    unfold aBailW
    rw [hbj, (hx.1 j hj).2.2.1, (hk.2.1 j hbb).2.2.1]
  unfold aBail
  rw [hW, hbj, if_pos ((hx.1 j hj).1.trans hh4)]
  generalize f (4 * j + 2) - 5 * aAble k X (nI j) 0 - K (5 + 4 * j + 2) = z
  have e := pos_iff z
  by_cases z1 : 0 < z
  · have z2 := (e ▸ z1 : 0 ≤ z ∧ ¬ z = 0)
    rw [if_pos z1, if_pos z1, if_pos z2.1, if_neg z2.2]
    exact e_ho (e_wa hx hj) hj
  · rw [if_neg z1, if_neg z1, if_pos rfl]
    have ez : (if 0 ≤ z then z else 0) = 0 := by
      by_cases z2 : 0 ≤ z
      · rw [if_pos z2]
        exact Classical.not_not.mp fun q => z1 (e ▸ ⟨z2, q⟩)
      · rw [if_neg z2]
    rw [ez]
    exact e_ho (e_wa hx hj) hj

def S184b (k : KK) (X : X6) (s : Int32) (as : List Value) (m : xM) (Q : xQt) : Prop := match as with
  | [.ref o, .ref r, .int b, .int dw] => (o = 86) ∧ (isR r) ∧ (m.1 90 4 ≤ 12) ∧ (vp_in b 6) ∧ (ix b < ix (m.1 90 3)) ∧ (EK k (m.1 90)) ∧ (E6 (ix (m.1 90 4)) X (m.1 r)) ∧ (0 ≤ (m.1 90 (5 + 4 * ix b + 1)).toInt ∧ (m.1 90 (5 + 4 * ix b + 1)).toInt ≤ 30) ∧ (xOK (m.2 86 19)) ∧ (0 ≤ (m.1 90 1).toInt ∧ (m.1 90 1).toInt ≤ 40) ∧ ((s = 0) = (¬ dw = 0)) ∧ (∀ F, E6 (ix (m.1 90 4)) (aRide k X b s (m.2 86 19)).1 F → F 48 = m.1 r 48 → Q none (xa (xb m 86 (vp_updL (m.2 86) 19 (aRide k X b s (m.2 86 19)).2)) r F))
  | _ => False
theorem s184b (k : KK) (X : X6) (s : Int32) (o : Nat) (r : Nat) (b : Int32) (dw : Int32) (m : xM) (Q : xQt) : S184b k X s [.ref o, .ref r, .int b, .int dw] m Q = ((o = 86) ∧ (isR r) ∧ (m.1 90 4 ≤ 12) ∧ (vp_in b 6) ∧ (ix b < ix (m.1 90 3)) ∧ (EK k (m.1 90)) ∧ (E6 (ix (m.1 90 4)) X (m.1 r)) ∧ (0 ≤ (m.1 90 (5 + 4 * ix b + 1)).toInt ∧ (m.1 90 (5 + 4 * ix b + 1)).toInt ≤ 30) ∧ (xOK (m.2 86 19)) ∧ (0 ≤ (m.1 90 1).toInt ∧ (m.1 90 1).toInt ≤ 40) ∧ ((s = 0) = (¬ dw = 0)) ∧ (∀ F, E6 (ix (m.1 90 4)) (aRide k X b s (m.2 86 19)).1 F → F 48 = m.1 r 48 → Q none (xa (xb m 86 (vp_updL (m.2 86) 19 (aRide k X b s (m.2 86 19)).2)) r F))) := rfl
theorem t184b {G : xG} (k : KK) (X : X6) (s : Int32) : ∀ as m Q, S184b k X s as m Q → Tri G 184 as m Q := by
  intro as m Q h
  match as, h with
  | [.ref o, .ref r, .int b, .int dw], h =>
    obtain ⟨rfl, hr, hn, hb, hbb, hk, hx, hsa, hxo, hwi, hs, h⟩ := h
    obtain ⟨j, hj, rfl⟩ := vp_in_of hb (by decide)
    have hbj : ix (nI j) = j := clN (by omega)
    rw [hbj] at hbb
    refine tri_vc (ls := [.ref 86, .ref r, .int (nI j), .int dw, .null, .null, .null]) (by decide +kernel) rfl (Nat.le_of_ble_eq_true rfl) ?_
    have zn : ix (m.1 90 4) ≤ 12 := ix_max (k := 12) hn (by decide)
    rw [hbj] at hsa
    refine vc_cut 75 [.ref 86, .ref r, .int (nI j), .int dw, .int (nI (4 * j)), .null, .null] (fun m1 => m1.1 = m.1 ∧ ∀ F, E6 (ix (m.1 90 4)) (aBail k X (nI j)) F → F 48 = m.1 r 48 → Q none (xa m1 r F)) (vc_wp (T := TT [(185, S185), (186, S186), (187, S187b k X), (188, S188b k X), (178, S178b k X)]) (TTc (t185) (TTc (t186) (TTc (t187b k X) (TTc (t188b k X) (TTc (t178b k X) TTn))))) (fun p => p == 75) (rt0 := none) rfl c184 rfl ?_) ?_
    · simp (disch := omega) only [i184, wp_iinc, wpE0, wpE1, wpE2, wpE3, wpE4, wpE5, wpJ, okS, lt4S, popR, litS, Int32.reduceLT, Int32.reduceLE, List.getElem?_cons_zero, List.getElem?_cons_succ, Bool.false_eq_true, ↓reduceIte, Nat.reduceMod, Nat.reduceDiv, Nat.reduceAdd, Nat.reduceSub, Nat.reduceMul, Nat.reduceLeDiff, Nat.reduceEqDiff, Nat.reduceBEq, Int.reduceToNat, Int.reduceAdd, Int32.reduceOfInt, Int64.reduceOfInt, Int32.reduceToNatClampNeg, Int32.reduceOfNat, Bool.or_self, Bool.or_false, Bool.false_or, Bool.true_or, Bool.or_true, true_and, and_true, false_and, and_false, List.set_cons_zero, List.set_cons_succ, List.take_succ_cons, List.take_zero, List.drop_succ_cons, List.drop_zero, List.reverse_cons, List.reverse_nil, List.nil_append, List.cons_append, List.length_cons, List.length_nil, Option.toList_some, Option.toList_none, not_true_eq_false, not_false_eq_true, forall_const, true_implies, false_implies, nrw, TTS, s185, s186, s187b, s188b, s178b, i185, i186, shM, isRl, and01, bI_0, linS, nI_add, clN, inN, inLS, xa_1, xa_2, xa_xa, neR hr, upd_ne, shR hr, xb_1, xb_2, xb_xa, updL_1, litM, i2lS, le_nlt, hr, hn, hb, hbb, hk, hx, hsa, hxo, hwi, hs, subS, not_true_eq_false, not_false_eq_true, and_true, true_and, and_false, false_and, and_self, or_true, true_or, or_false, false_or, ↓reduceIte, if_true, if_false, eq_self]
      unfold aRide at h
      rw [hbj] at h
      refine ⟨fun z1 => ?_, fun z1 => ?_⟩
      · rw [if_neg (c := s = 0) (by rw [hs]; exact fun q => q z1)] at h
        simp only [xb_id19] at h
        exact ⟨fun _ => h, fun zz => absurd z1 zz⟩
      · rw [if_pos (c := s = 0) (by rw [hs]; exact z1)] at h
        have hd := draw_rem hxo (n := 10) (by decide) (by decide)
        have hc : (((kWi k).toInt64 + (aDraw (m.2 86 19) - aDraw (m.2 86 19) / 10 * 10)) * (kSa k j).toInt64 ≤ (aIn k X (nI j) + 5 * kBe k j - xWa X j).toInt64) = ((m.1 90 1 + (aDraw (m.2 86 19) - aDraw (m.2 86 19) / 10 * 10).toInt32) * m.1 90 (5 + 4 * j + 1) ≤ aIn k X (nI j) + 5 * m.1 90 (5 + 4 * j + 0) - m.1 r (4 * j + 2)) := by
          rw [hk.1.2.1, (hk.2.1 j hbb).1, (hk.2.1 j hbb).2.1, (hx.1 j hj).2.2.1]
          exact le_64m hwi hsa hd.1 hd.2.1 hd.2.2
        refine ⟨fun zz => absurd zz z1, fun _ => ⟨fun z3 => ?_, fun z3 => ?_⟩⟩
        · rw [if_pos (c := (((kWi k).toInt64 + (aDraw (m.2 86 19) - aDraw (m.2 86 19) / 10 * 10)) * (kSa k j).toInt64 ≤ (aIn k X (nI j) + 5 * kBe k j - xWa X j).toInt64)) (by rw [hc, le_nlt]; exact z3)] at h
          exact h
        · rw [if_neg (c := (((kWi k).toInt64 + (aDraw (m.2 86 19) - aDraw (m.2 86 19) / 10 * 10)) * (kSa k j).toInt64 ≤ (aIn k X (nI j) + 5 * kBe k j - xWa X j).toInt64)) (by rw [hc, le_nlt]; exact z3)] at h
          exact h
    · rintro m1 ⟨e1, h1⟩
      refine vc_wp (T := TT [(185, S185), (186, S186), (187, S187b k X), (188, S188b k X), (178, S178b k X)]) (TTc (t185) (TTc (t186) (TTc (t187b k X) (TTc (t188b k X) (TTc (t178b k X) TTn))))) (fun _ => false) (rt0 := none) rfl (ckl_drop 48 c184) rfl ?_
      simp (disch := omega) only [List.drop, i184, wp_iinc, wpE0, wpE1, wpE2, wpE3, wpE4, wpE5, wpJ, okS, lt4S, popR, litS, Int32.reduceLT, Int32.reduceLE, List.getElem?_cons_zero, List.getElem?_cons_succ, Bool.false_eq_true, ↓reduceIte, Nat.reduceMod, Nat.reduceDiv, Nat.reduceAdd, Nat.reduceSub, Nat.reduceMul, Nat.reduceLeDiff, Nat.reduceEqDiff, Nat.reduceBEq, Int.reduceToNat, Int.reduceAdd, Int32.reduceOfInt, Int64.reduceOfInt, Int32.reduceToNatClampNeg, Int32.reduceOfNat, Bool.or_self, Bool.or_false, Bool.false_or, Bool.true_or, Bool.or_true, true_and, and_true, false_and, and_false, List.set_cons_zero, List.set_cons_succ, List.take_succ_cons, List.take_zero, List.drop_succ_cons, List.drop_zero, List.reverse_cons, List.reverse_nil, List.nil_append, List.cons_append, List.length_cons, List.length_nil, Option.toList_some, Option.toList_none, not_true_eq_false, not_false_eq_true, forall_const, true_implies, false_implies, nrw, TTS, s185, s186, s187b, s188b, s178b, i185, i186, shM, isRl, and01, bI_0, linS, nI_add, clN, inN, inLS, xa_1, xa_2, xa_xa, neR hr, upd_ne, shR hr, xb_1, xb_2, xb_xa, updL_1, litM, i2lS, le_nlt, hr, hn, hb, hbb, hk, hx, hsa, hxo, hwi, hs, subS, not_true_eq_false, not_false_eq_true, and_true, true_and, and_false, false_and, and_self, or_true, true_or, or_false, false_or, ↓reduceIte, if_true, if_false, eq_self, e1]
      have key := e_bail (K := m.1 90) (f := m.1 r) hk hx hj hbj hbb
      refine ⟨fun z0 => ⟨fun z1 => ⟨fun z2 => ?_, fun z2 => ?_⟩, fun z1 => ⟨fun z2 => ?_, fun z2 => ?_⟩⟩, fun z0 => ?_⟩
      · have key := key z0
        rw [if_pos (c := 0 ≤ m.1 r (4 * j + 2) - 5 * aAble k X (nI j) 0 - m.1 90 (5 + 4 * j + 2)) (by rw [le_nlt]; exact z1), if_pos (c := 0 < m.1 r (4 * j + 2) - 5 * aAble k X (nI j) 0 - m.1 90 (5 + 4 * j + 2)) z2] at key
        exact h1 _ key (by simp (disch := omega) only [upd_ne])
      · have key := key z0
        rw [if_pos (c := 0 ≤ m.1 r (4 * j + 2) - 5 * aAble k X (nI j) 0 - m.1 90 (5 + 4 * j + 2)) (by rw [le_nlt]; exact z1), if_neg (c := 0 < m.1 r (4 * j + 2) - 5 * aAble k X (nI j) 0 - m.1 90 (5 + 4 * j + 2)) z2] at key
        exact h1 _ key (by simp (disch := omega) only [upd_ne])
      · have key := key z0
        rw [if_neg (c := 0 ≤ m.1 r (4 * j + 2) - 5 * aAble k X (nI j) 0 - m.1 90 (5 + 4 * j + 2)) (by rw [le_nlt]; exact z1), if_pos (c := 0 < m.1 r (4 * j + 2) - 5 * aAble k X (nI j) 0 - m.1 90 (5 + 4 * j + 2)) z2] at key
        exact h1 _ key (by simp (disch := omega) only [upd_ne])
      · have key := key z0
        rw [if_neg (c := 0 ≤ m.1 r (4 * j + 2) - 5 * aAble k X (nI j) 0 - m.1 90 (5 + 4 * j + 2)) (by rw [le_nlt]; exact z1), if_neg (c := 0 < m.1 r (4 * j + 2) - 5 * aAble k X (nI j) 0 - m.1 90 (5 + 4 * j + 2)) z2] at key
        exact h1 _ key (by simp (disch := omega) only [upd_ne])
      · unfold aBail at h1
        rw [hbj, if_neg (c := xHo X j = 4) (fun q => z0 ((hx.1 j hj).1.symm.trans q))] at h1
        have h9 := h1 _ hx rfl
        rw [← e1, xa_id] at h9
        exact h9

theorem aT1_eq (k : KK) (X : X6) (b s : Int32) (x : Int64) : aT1 k X b s x = (if xHo X (ix b) = 1 then aSid k X b s x else if xHo X (ix b) = 2 ∨ xHo X (ix b) = 3 then (aRnd k X b, x) else aRide k X b s x) := by
  unfold aT1 aSid aRnd
  by_cases z1 : xHo X (ix b) = 1
  · rw [if_pos z1, if_pos z1]
  · rw [if_neg z1, if_neg z1]
    by_cases z2 : xHo X (ix b) = 2
    · have z3 : ¬ xHo X (ix b) = 3 := by rw [z2]; decide
      rw [if_pos z2, if_pos (Or.inl z2), if_neg z3]
      split <;> rfl
    · rw [if_neg z2]
      by_cases z3 : xHo X (ix b) = 3
      · rw [if_pos z3, if_pos (Or.inr z3), if_pos z3]
      · rw [if_neg z3, if_neg (fun q => q.elim z2 z3)]
end
section
def S195b (k : KK) (X : X6) (as : List Value) (m : xM) (Q : xQt) : Prop := match as with
  | [.ref o, .ref r, .int b] => (o = 86) ∧ (isR r) ∧ (m.1 90 4 ≤ 12) ∧ (vp_in b 6) ∧ (ix b < ix (m.1 90 3)) ∧ (EK k (m.1 90)) ∧ (E6 (ix (m.1 90 4)) X (m.1 r)) ∧ (∀ h, h < ix (m.1 90 4) → 1 ≤ 6 * m.1 90 (29 + 3 * h + 2)) ∧ (∀ F, E6 (ix (m.1 90 4)) (aChill k X b) F → F 48 = m.1 r 48 → Q none (xa m r F))
  | _ => False
theorem s195b (k : KK) (X : X6) (o : Nat) (r : Nat) (b : Int32) (m : xM) (Q : xQt) : S195b k X [.ref o, .ref r, .int b] m Q = ((o = 86) ∧ (isR r) ∧ (m.1 90 4 ≤ 12) ∧ (vp_in b 6) ∧ (ix b < ix (m.1 90 3)) ∧ (EK k (m.1 90)) ∧ (E6 (ix (m.1 90 4)) X (m.1 r)) ∧ (∀ h, h < ix (m.1 90 4) → 1 ≤ 6 * m.1 90 (29 + 3 * h + 2)) ∧ (∀ F, E6 (ix (m.1 90 4)) (aChill k X b) F → F 48 = m.1 r 48 → Q none (xa m r F))) := rfl
theorem t195b {G : xG} (k : KK) (X : X6) : ∀ as m Q, S195b k X as m Q → Tri G 195 as m Q := by
  intro as m Q h
  match as, h with
  | [.ref o, .ref r, .int b], h =>
    obtain ⟨rfl, hr, hn, hb, hbb, hk, hx, hL, h⟩ := h
    exact t195 [.ref 86, .ref r, .int b] m Q ⟨rfl, hr, hn, hb, fun zi hzi hz0 => absurd (hL zi hzi) (by rw [hz0]; decide), h _ (e_chill hk hx hn hb hL (fun _ _ z => pos_iff _)) (sm2_hi (by omega) (ix_max (k := 12) hn (by decide)) (by omega))⟩

def S183b (k : KK) (X : X6) (s : Int32) (as : List Value) (m : xM) (Q : xQt) : Prop := match as with
  | [.ref o, .ref r, .int b, .int dw] => (o = 86) ∧ (isR r) ∧ (m.1 90 4 ≤ 12) ∧ (vp_in b 6) ∧ (ix b < ix (m.1 90 3)) ∧ (EK k (m.1 90)) ∧ (E6 (ix (m.1 90 4)) X (m.1 r)) ∧ (0 ≤ (m.1 90 (5 + 4 * ix b + 1)).toInt ∧ (m.1 90 (5 + 4 * ix b + 1)).toInt ≤ 30) ∧ (m.1 90 2 = 0 ∨ m.1 90 2 = 1) ∧ (∀ h, h < ix (m.1 90 4) → 1 ≤ 6 * m.1 90 (29 + 3 * h + 2)) ∧ (m.1 r (4 * ix b + 0) = 0 ∨ m.1 r (4 * ix b + 0) = 1 ∨ m.1 r (4 * ix b + 0) = 2 ∨ m.1 r (4 * ix b + 0) = 3 ∨ m.1 r (4 * ix b + 0) = 4) ∧ (xOK (m.2 86 19)) ∧ (0 ≤ (m.1 90 1).toInt ∧ (m.1 90 1).toInt ≤ 40) ∧ ((s = 0) = (¬ dw = 0)) ∧ (∀ F, E6 (ix (m.1 90 4)) (aTick k X b s (m.2 86 19)).1 F → F 48 = m.1 r 48 → Q none (xa (xb m 86 (vp_updL (m.2 86) 19 (aTick k X b s (m.2 86 19)).2)) r F))
  | _ => False
theorem s183b (k : KK) (X : X6) (s : Int32) (o : Nat) (r : Nat) (b : Int32) (dw : Int32) (m : xM) (Q : xQt) : S183b k X s [.ref o, .ref r, .int b, .int dw] m Q = ((o = 86) ∧ (isR r) ∧ (m.1 90 4 ≤ 12) ∧ (vp_in b 6) ∧ (ix b < ix (m.1 90 3)) ∧ (EK k (m.1 90)) ∧ (E6 (ix (m.1 90 4)) X (m.1 r)) ∧ (0 ≤ (m.1 90 (5 + 4 * ix b + 1)).toInt ∧ (m.1 90 (5 + 4 * ix b + 1)).toInt ≤ 30) ∧ (m.1 90 2 = 0 ∨ m.1 90 2 = 1) ∧ (∀ h, h < ix (m.1 90 4) → 1 ≤ 6 * m.1 90 (29 + 3 * h + 2)) ∧ (m.1 r (4 * ix b + 0) = 0 ∨ m.1 r (4 * ix b + 0) = 1 ∨ m.1 r (4 * ix b + 0) = 2 ∨ m.1 r (4 * ix b + 0) = 3 ∨ m.1 r (4 * ix b + 0) = 4) ∧ (xOK (m.2 86 19)) ∧ (0 ≤ (m.1 90 1).toInt ∧ (m.1 90 1).toInt ≤ 40) ∧ ((s = 0) = (¬ dw = 0)) ∧ (∀ F, E6 (ix (m.1 90 4)) (aTick k X b s (m.2 86 19)).1 F → F 48 = m.1 r 48 → Q none (xa (xb m 86 (vp_updL (m.2 86) 19 (aTick k X b s (m.2 86 19)).2)) r F))) := rfl
theorem t183b {G : xG} (k : KK) (X : X6) (s : Int32) : ∀ as m Q, S183b k X s as m Q → Tri G 183 as m Q := by
  intro as m Q h
  match as, h with
  | [.ref o, .ref r, .int b, .int dw], h =>
    obtain ⟨rfl, hr, hn, hb, hbb, hk, hx, hsa, hmu, hL, hho, hxo, hwi, hs, h⟩ := h
    obtain ⟨j, hj, rfl⟩ := vp_in_of hb (by decide)
    have hbj : ix (nI j) = j := clN (by omega)
    rw [hbj] at hbb
    refine tri_wp (T := TT [(184, S184b k X s), (189, S189b k X s), (194, S194b k X), (195, S195b k (aT1 k X (nI j) s (m.2 86 19)).1)]) (ls := [.ref 86, .ref r, .int (nI j), .int dw]) (TTc (t184b k X s) (TTc (t189b k X s) (TTc (t194b k X) (TTc (t195b k (aT1 k X (nI j) s (m.2 86 19)).1) TTn)))) c183 (by decide +kernel) (rt0 := none) rfl rfl (Nat.le_of_ble_eq_true rfl) rfl ?_
    simp (disch := omega) only [i183, wp_iinc, wpE0, wpE1, wpE2, wpE3, wpE4, wpE5, wpJ, okS, lt4S, popR, litS, Int32.reduceLT, Int32.reduceLE, List.getElem?_cons_zero, List.getElem?_cons_succ, Bool.false_eq_true, ↓reduceIte, Nat.reduceMod, Nat.reduceDiv, Nat.reduceAdd, Nat.reduceSub, Nat.reduceMul, Nat.reduceLeDiff, Nat.reduceEqDiff, Nat.reduceBEq, Int.reduceToNat, Int.reduceAdd, Int32.reduceOfInt, Int64.reduceOfInt, Int32.reduceToNatClampNeg, Int32.reduceOfNat, Bool.or_self, Bool.or_false, Bool.false_or, Bool.true_or, Bool.or_true, true_and, and_true, false_and, and_false, List.set_cons_zero, List.set_cons_succ, List.take_succ_cons, List.take_zero, List.drop_succ_cons, List.drop_zero, List.reverse_cons, List.reverse_nil, List.nil_append, List.cons_append, List.length_cons, List.length_nil, Option.toList_some, Option.toList_none, not_true_eq_false, not_false_eq_true, forall_const, true_implies, false_implies, nrw, TTS, s184b, s189b, s194b, s195b, shM, isRl, and01, bI_0, linS, nI_add, clN, inN, inLS, xa_1, xa_2, xa_xa, neR hr, upd_ne, shR hr, xb_1, xb_2, xb_xa, updL_1, litM, i2lS, Int32.reduceOfInt, Int.reduceAdd, hr, hn, hb, hbb, hk, hx, hsa, hmu, hL, hho, hxo, hwi, hs]
    unfold aTick at h
    rw [hbj] at hho
    have hXo : xHo X j = m.1 r (4 * j + 0) := (hx.1 j hj).1
    have e := aT1_eq k X (nI j) s (m.2 86 19)
    rw [hbj] at e
    have hsa2 := hsa
    rw [hbj] at hsa2
    have key : ∀ Y : X6 × Int64, aT1 k X (nI j) s (m.2 86 19) = Y → ∀ F, E6 (ix (m.1 90 4)) Y.1 F → F 48 = m.1 r 48 → E6 (ix (m.1 90 4)) (aT1 k X (nI j) s (m.2 86 19)).1 F ∧ (∀ (h : Nat), h < ix (m.1 90 4) → 1 ≤ 6 * m.1 90 (29 + 3 * h + 2)) ∧ ∀ F1, E6 (ix (m.1 90 4)) (aChill k (aT1 k X (nI j) s (m.2 86 19)).1 (nI j)) F1 → F1 48 = F 48 → Q none (xa (xb m 86 (vp_updL (m.2 86) 19 Y.2)) r F1) := by
      intro Y hY F hF hF2
      rw [hY] at h ⊢
      exact ⟨hF, hL, fun F1 h1 h2 => h F1 h1 (h2.trans hF2)⟩
    have keyR : ∀ (hY : aT1 k X (nI j) s (m.2 86 19) = (aRnd k X (nI j), m.2 86 19)) (F : Nat → Int32), E6 (ix (m.1 90 4)) (aRnd k X (nI j)) F → F 48 = m.1 r 48 → E6 (ix (m.1 90 4)) (aT1 k X (nI j) s (m.2 86 19)).1 F ∧ (∀ (h : Nat), h < ix (m.1 90 4) → 1 ≤ 6 * m.1 90 (29 + 3 * h + 2)) ∧ ∀ F1, E6 (ix (m.1 90 4)) (aChill k (aT1 k X (nI j) s (m.2 86 19)).1 (nI j)) F1 → F1 48 = F 48 → Q none (xa m r F1) := by
      intro hY F hF hF2
      have z := key _ hY F hF hF2
      simp only [xb_id19] at z
      exact z
    refine ⟨fun z0 => ⟨hsa2, key _ ?_⟩, fun z0 => ⟨fun z1 => ⟨z1, key _ ?_⟩, fun z1 => ⟨fun z2 => keyR ?_, fun z2 => ⟨fun z3 => keyR ?_, fun z3 => ⟨fun z4 => ⟨hsa2, key _ ?_⟩, fun z4 => ?_⟩⟩⟩⟩⟩
    · rw [e, hXo, z0]; rfl
    · rw [e, hXo, z1]; rfl
    · rw [e, hXo, z2]; rfl
    · rw [e, hXo, z3]; rfl
    · rw [e, hXo, z4]; rfl
    · exact absurd hho (by simp only [z0, z1, z2, z3, z4, or_false, not_false_eq_true])
end
section
/-- a number between two -/
def bt (a : Int32) (l u : Int) : Prop := l ≤ a.toInt ∧ a.toInt ≤ u
/-- what a club's fixed things keep to -/
def VK1 (k : KK) : Prop := bt (kWa k) 0 30 ∧ bt (kWi k) 0 40 ∧ (kMu k = 0 ∨ kMu k = 1) ∧ bt (kNb k) 0 6 ∧ bt (kNh k) 0 12
def VK2 (k : KK) : Prop := ∀ b, b < ix (kNb k) → bt (kBe k b) 1 30 ∧ bt (kSa k b) 1 30 ∧ bt (kAi k b) 0 9 ∧ bt (kFl k b) 0 20
def VK3 (k : KK) : Prop := ∀ h, h < ix (kNh k) → (0 ≤ (kBo k h).toInt ∧ (kBo k h).toInt < (kNb k).toInt) ∧ bt (kWe k h) 20 150 ∧ bt (kLa k h) 1 60
def VK4 (k : KK) : Prop := ∀ b : Int32, cnt (fun h => kBo k h = b) (ix (kNh k)) ≤ 4
def VKK (k : KK) : Prop := VK1 k ∧ VK2 k ∧ VK3 k ∧ VK4 k
/-- what its things that change keep to -/
def VXX (k : KK) (X : X6) : Prop := (∀ b, b < ix (kNb k) → bt (xHo X b) 0 4 ∧ bt (xMa X b) 0 100 ∧ bt (xWa X b) 0 70) ∧ (∀ h, h < ix (kNh k) → bt (xSp X h) 0 3 ∧ bt (xGr X h) 0 1000)
/-- a club of the class and one of the Model -/
def RC (k : KK) (X : X6) (t : Int32) (K f : Nat → Int32) : Prop := EK k K ∧ E6 (ix (K 4)) X f ∧ f 48 = t ∧ VKK k ∧ VXX k X
def Rrows (la si it la' ma' it' : Nat → Int32) : Prop := ∀ r, r < 8 → (si r = -1 ∧ la' r = -1) ∨ (bt (si r) 0 40 ∧ ma' r = si r ∧ la r = la' r ∧ bt (la' r) 0 2 ∧ ∀ i, i < ix (si r) → it (40 * r + i) = it' (40 * r + i))
def Rtape (n : Int32) (t : Nat → Int32) (n' : Int32) (t' : Nat → Int32) : Prop := n = n' ∧ bt n 0 400 ∧ ∀ i, i < ix n → bt (t i) (-128) 127 ∧ t' i = t i &&& 255
def Rtrace (n : Int32) (t : Nat → Int32) (n' : Int32) (t' : Nat → Int32) : Prop := n = n' ∧ bt n 0 16 ∧ ∀ i, i < ix n → t i = t' i
/-- the class's memory and the Model's -/
def REL (m : xM) : Prop := (Rrows (m.1 2) (m.1 3) (m.1 4) (m.1 87) (m.1 88) (m.1 89)) ∧ (Rtape (m.1 5 1) (m.1 6) (m.1 86 10) (m.1 93)) ∧ (RC (kk m 7) (g6 m 7) (m.1 7 3) (m.1 90) (m.1 92)) ∧ ((m.1 86 7 = 0) = (m.1 7 4 = 0)) ∧ (RC (kk m 35) (g6 m 35) (m.1 35 3) (fun i => m.1 98 (65 * 0 + i)) (fun i => m.1 99 (49 * 0 + i))) ∧ (RC (kk m 49) (g6 m 49) (m.1 49 3) (fun i => m.1 98 (65 * 1 + i)) (fun i => m.1 99 (49 * 1 + i))) ∧ ((m.1 97 0 = 0) = (m.1 35 4 = 0)) ∧ ((m.1 97 1 = 0) = (m.1 49 4 = 0)) ∧ (m.1 0 10 = m.1 86 11) ∧ (m.1 0 11 = m.1 86 1) ∧ (Rtrace (m.1 84 1) (m.1 85) (m.1 86 31) (m.1 100)) ∧ (m.1 79 0 = 1)
theorem REL.rows {m : xM} (h : REL m) : Rrows (m.1 2) (m.1 3) (m.1 4) (m.1 87) (m.1 88) (m.1 89) := h.1
theorem REL.tape {m : xM} (h : REL m) : Rtape (m.1 5 1) (m.1 6) (m.1 86 10) (m.1 93) := h.2.1
theorem REL.club {m : xM} (h : REL m) : RC (kk m 7) (g6 m 7) (m.1 7 3) (m.1 90) (m.1 92) := h.2.2.1
theorem REL.there {m : xM} (h : REL m) : (m.1 86 7 = 0) = (m.1 7 4 = 0) := h.2.2.2.1
theorem REL.im0 {m : xM} (h : REL m) : RC (kk m 35) (g6 m 35) (m.1 35 3) (fun i => m.1 98 (65 * 0 + i)) (fun i => m.1 99 (49 * 0 + i)) := h.2.2.2.2.1
theorem REL.im1 {m : xM} (h : REL m) : RC (kk m 49) (g6 m 49) (m.1 49 3) (fun i => m.1 98 (65 * 1 + i)) (fun i => m.1 99 (49 * 1 + i)) := h.2.2.2.2.2.1
theorem REL.kept0 {m : xM} (h : REL m) : (m.1 97 0 = 0) = (m.1 35 4 = 0) := h.2.2.2.2.2.2.1
theorem REL.kept1 {m : xM} (h : REL m) : (m.1 97 1 = 0) = (m.1 49 4 = 0) := h.2.2.2.2.2.2.2.1
theorem REL.fault {m : xM} (h : REL m) : m.1 0 10 = m.1 86 11 := h.2.2.2.2.2.2.2.2.1
theorem REL.status {m : xM} (h : REL m) : m.1 0 11 = m.1 86 1 := h.2.2.2.2.2.2.2.2.2.1
theorem REL.trace {m : xM} (h : REL m) : Rtrace (m.1 84 1) (m.1 85) (m.1 86 31) (m.1 100) := h.2.2.2.2.2.2.2.2.2.2.1
theorem REL.still {m : xM} (h : REL m) : m.1 79 0 = 1 := h.2.2.2.2.2.2.2.2.2.2.2
theorem REL.mk {m : xM} (rows : Rrows (m.1 2) (m.1 3) (m.1 4) (m.1 87) (m.1 88) (m.1 89)) (tape : Rtape (m.1 5 1) (m.1 6) (m.1 86 10) (m.1 93)) (club : RC (kk m 7) (g6 m 7) (m.1 7 3) (m.1 90) (m.1 92)) (there : (m.1 86 7 = 0) = (m.1 7 4 = 0)) (im0 : RC (kk m 35) (g6 m 35) (m.1 35 3) (fun i => m.1 98 (65 * 0 + i)) (fun i => m.1 99 (49 * 0 + i))) (im1 : RC (kk m 49) (g6 m 49) (m.1 49 3) (fun i => m.1 98 (65 * 1 + i)) (fun i => m.1 99 (49 * 1 + i))) (kept0 : (m.1 97 0 = 0) = (m.1 35 4 = 0)) (kept1 : (m.1 97 1 = 0) = (m.1 49 4 = 0)) (fault : m.1 0 10 = m.1 86 11) (status : m.1 0 11 = m.1 86 1) (trace : Rtrace (m.1 84 1) (m.1 85) (m.1 86 31) (m.1 100)) (still : m.1 79 0 = 1) : REL m := ⟨rows, tape, club, there, im0, im1, kept0, kept1, fault, status, trace, still⟩
/-- the Model's answer will be this one, and the memories go on together -/
def MID (G : xG) (y : Nat) (as : List Value) (r : Value) (m1 : xM) : Prop := ∀ Q' : xQt, (∀ m2, REL m2 → Q' (some r) m2) → Tri G y as m1 Q'
theorem bt_le {a : Int32} {l u : Int} (h : bt a l u) {n : Int32} (hn : n.toInt = u) : a ≤ n := by
  rw [Int32.le_iff_toInt_le, hn]; exact h.2
theorem bt_nlt {a : Int32} {l u : Int} (h : bt a l u) {n : Int32} (hn : n.toInt = l) : ¬ a < n := by
  rw [Int32.lt_iff_toInt_lt, hn]; have := h.1; omega
theorem toL_le (a b : Int32) : (a.toInt64 ≤ b.toInt64) = (a ≤ b) := by
  apply propext
  rw [Int64.le_iff_toInt_le, Int32.le_iff_toInt_le, Int32.toInt_toInt64, Int32.toInt_toInt64]
theorem toL_lt (a b : Int32) : (a.toInt64 < b.toInt64) = (a < b) := by
  apply propext
  rw [Int64.lt_iff_toInt_lt, Int32.lt_iff_toInt_lt, Int32.toInt_toInt64, Int32.toInt_toInt64]
theorem toL_eq (a b : Int32) : (a.toInt64 = b.toInt64) = (a = b) := by
  apply propext
  rw [← Int64.toInt_inj, ← Int32.toInt_inj, Int32.toInt_toInt64, Int32.toInt_toInt64]

theorem toLS : (∀ a : Int32, ((0 : Int64) ≤ a.toInt64) = ((0 : Int32) ≤ a)) ∧ (∀ a : Int32, (a.toInt64 ≤ (0 : Int64)) = (a ≤ (0 : Int32))) ∧ (∀ a : Int32, ((0 : Int64) < a.toInt64) = ((0 : Int32) < a)) ∧ (∀ a : Int32, (a.toInt64 < (0 : Int64)) = (a < (0 : Int32))) ∧ (∀ a : Int32, ((1 : Int64) ≤ a.toInt64) = ((1 : Int32) ≤ a)) ∧ (∀ a : Int32, (a.toInt64 ≤ (1 : Int64)) = (a ≤ (1 : Int32))) ∧ (∀ a : Int32, ((1 : Int64) < a.toInt64) = ((1 : Int32) < a)) ∧ (∀ a : Int32, (a.toInt64 < (1 : Int64)) = (a < (1 : Int32))) ∧ (∀ a : Int32, ((2 : Int64) ≤ a.toInt64) = ((2 : Int32) ≤ a)) ∧ (∀ a : Int32, (a.toInt64 ≤ (2 : Int64)) = (a ≤ (2 : Int32))) ∧ (∀ a : Int32, ((2 : Int64) < a.toInt64) = ((2 : Int32) < a)) ∧ (∀ a : Int32, (a.toInt64 < (2 : Int64)) = (a < (2 : Int32))) ∧ (∀ a : Int32, ((3 : Int64) ≤ a.toInt64) = ((3 : Int32) ≤ a)) ∧ (∀ a : Int32, (a.toInt64 ≤ (3 : Int64)) = (a ≤ (3 : Int32))) ∧ (∀ a : Int32, ((3 : Int64) < a.toInt64) = ((3 : Int32) < a)) ∧ (∀ a : Int32, (a.toInt64 < (3 : Int64)) = (a < (3 : Int32))) ∧ (∀ a : Int32, ((4 : Int64) ≤ a.toInt64) = ((4 : Int32) ≤ a)) ∧ (∀ a : Int32, (a.toInt64 ≤ (4 : Int64)) = (a ≤ (4 : Int32))) ∧ (∀ a : Int32, ((4 : Int64) < a.toInt64) = ((4 : Int32) < a)) ∧ (∀ a : Int32, (a.toInt64 < (4 : Int64)) = (a < (4 : Int32))) ∧ (∀ a : Int32, ((5 : Int64) ≤ a.toInt64) = ((5 : Int32) ≤ a)) ∧ (∀ a : Int32, (a.toInt64 ≤ (5 : Int64)) = (a ≤ (5 : Int32))) ∧ (∀ a : Int32, ((5 : Int64) < a.toInt64) = ((5 : Int32) < a)) ∧ (∀ a : Int32, (a.toInt64 < (5 : Int64)) = (a < (5 : Int32))) ∧ (∀ a : Int32, ((7 : Int64) ≤ a.toInt64) = ((7 : Int32) ≤ a)) ∧ (∀ a : Int32, (a.toInt64 ≤ (7 : Int64)) = (a ≤ (7 : Int32))) ∧ (∀ a : Int32, ((7 : Int64) < a.toInt64) = ((7 : Int32) < a)) ∧ (∀ a : Int32, (a.toInt64 < (7 : Int64)) = (a < (7 : Int32))) ∧ (∀ a : Int32, ((8 : Int64) ≤ a.toInt64) = ((8 : Int32) ≤ a)) ∧ (∀ a : Int32, (a.toInt64 ≤ (8 : Int64)) = (a ≤ (8 : Int32))) ∧ (∀ a : Int32, ((8 : Int64) < a.toInt64) = ((8 : Int32) < a)) ∧ (∀ a : Int32, (a.toInt64 < (8 : Int64)) = (a < (8 : Int32))) ∧ (∀ a : Int32, ((9 : Int64) ≤ a.toInt64) = ((9 : Int32) ≤ a)) ∧ (∀ a : Int32, (a.toInt64 ≤ (9 : Int64)) = (a ≤ (9 : Int32))) ∧ (∀ a : Int32, ((9 : Int64) < a.toInt64) = ((9 : Int32) < a)) ∧ (∀ a : Int32, (a.toInt64 < (9 : Int64)) = (a < (9 : Int32))) ∧ (∀ a : Int32, ((10 : Int64) ≤ a.toInt64) = ((10 : Int32) ≤ a)) ∧ (∀ a : Int32, (a.toInt64 ≤ (10 : Int64)) = (a ≤ (10 : Int32))) ∧ (∀ a : Int32, ((10 : Int64) < a.toInt64) = ((10 : Int32) < a)) ∧ (∀ a : Int32, (a.toInt64 < (10 : Int64)) = (a < (10 : Int32))) ∧ (∀ a : Int32, ((20 : Int64) ≤ a.toInt64) = ((20 : Int32) ≤ a)) ∧ (∀ a : Int32, (a.toInt64 ≤ (20 : Int64)) = (a ≤ (20 : Int32))) ∧ (∀ a : Int32, ((20 : Int64) < a.toInt64) = ((20 : Int32) < a)) ∧ (∀ a : Int32, (a.toInt64 < (20 : Int64)) = (a < (20 : Int32))) ∧ (∀ a : Int32, ((30 : Int64) ≤ a.toInt64) = ((30 : Int32) ≤ a)) ∧ (∀ a : Int32, (a.toInt64 ≤ (30 : Int64)) = (a ≤ (30 : Int32))) ∧ (∀ a : Int32, ((30 : Int64) < a.toInt64) = ((30 : Int32) < a)) ∧ (∀ a : Int32, (a.toInt64 < (30 : Int64)) = (a < (30 : Int32))) ∧ (∀ a : Int32, ((40 : Int64) ≤ a.toInt64) = ((40 : Int32) ≤ a)) ∧ (∀ a : Int32, (a.toInt64 ≤ (40 : Int64)) = (a ≤ (40 : Int32))) ∧ (∀ a : Int32, ((40 : Int64) < a.toInt64) = ((40 : Int32) < a)) ∧ (∀ a : Int32, (a.toInt64 < (40 : Int64)) = (a < (40 : Int32))) ∧ (∀ a : Int32, ((60 : Int64) ≤ a.toInt64) = ((60 : Int32) ≤ a)) ∧ (∀ a : Int32, (a.toInt64 ≤ (60 : Int64)) = (a ≤ (60 : Int32))) ∧ (∀ a : Int32, ((60 : Int64) < a.toInt64) = ((60 : Int32) < a)) ∧ (∀ a : Int32, (a.toInt64 < (60 : Int64)) = (a < (60 : Int32))) ∧ (∀ a : Int32, ((99 : Int64) ≤ a.toInt64) = ((99 : Int32) ≤ a)) ∧ (∀ a : Int32, (a.toInt64 ≤ (99 : Int64)) = (a ≤ (99 : Int32))) ∧ (∀ a : Int32, ((99 : Int64) < a.toInt64) = ((99 : Int32) < a)) ∧ (∀ a : Int32, (a.toInt64 < (99 : Int64)) = (a < (99 : Int32))) ∧ (∀ a : Int32, ((100 : Int64) ≤ a.toInt64) = ((100 : Int32) ≤ a)) ∧ (∀ a : Int32, (a.toInt64 ≤ (100 : Int64)) = (a ≤ (100 : Int32))) ∧ (∀ a : Int32, ((100 : Int64) < a.toInt64) = ((100 : Int32) < a)) ∧ (∀ a : Int32, (a.toInt64 < (100 : Int64)) = (a < (100 : Int32))) ∧ (∀ a : Int32, ((400 : Int64) ≤ a.toInt64) = ((400 : Int32) ≤ a)) ∧ (∀ a : Int32, (a.toInt64 ≤ (400 : Int64)) = (a ≤ (400 : Int32))) ∧ (∀ a : Int32, ((400 : Int64) < a.toInt64) = ((400 : Int32) < a)) ∧ (∀ a : Int32, (a.toInt64 < (400 : Int64)) = (a < (400 : Int32))) ∧ (∀ a : Int32, ((999 : Int64) ≤ a.toInt64) = ((999 : Int32) ≤ a)) ∧ (∀ a : Int32, (a.toInt64 ≤ (999 : Int64)) = (a ≤ (999 : Int32))) ∧ (∀ a : Int32, ((999 : Int64) < a.toInt64) = ((999 : Int32) < a)) ∧ (∀ a : Int32, (a.toInt64 < (999 : Int64)) = (a < (999 : Int32))) ∧ (∀ a : Int32, ((999999 : Int64) ≤ a.toInt64) = ((999999 : Int32) ≤ a)) ∧ (∀ a : Int32, (a.toInt64 ≤ (999999 : Int64)) = (a ≤ (999999 : Int32))) ∧ (∀ a : Int32, ((999999 : Int64) < a.toInt64) = ((999999 : Int32) < a)) ∧ (∀ a : Int32, (a.toInt64 < (999999 : Int64)) = (a < (999999 : Int32))) :=
  ⟨fun a => toL_le 0 a, fun a => toL_le a 0, fun a => toL_lt 0 a, fun a => toL_lt a 0, fun a => toL_le 1 a, fun a => toL_le a 1, fun a => toL_lt 1 a, fun a => toL_lt a 1, fun a => toL_le 2 a, fun a => toL_le a 2, fun a => toL_lt 2 a, fun a => toL_lt a 2, fun a => toL_le 3 a, fun a => toL_le a 3, fun a => toL_lt 3 a, fun a => toL_lt a 3, fun a => toL_le 4 a, fun a => toL_le a 4, fun a => toL_lt 4 a, fun a => toL_lt a 4, fun a => toL_le 5 a, fun a => toL_le a 5, fun a => toL_lt 5 a, fun a => toL_lt a 5, fun a => toL_le 7 a, fun a => toL_le a 7, fun a => toL_lt 7 a, fun a => toL_lt a 7, fun a => toL_le 8 a, fun a => toL_le a 8, fun a => toL_lt 8 a, fun a => toL_lt a 8, fun a => toL_le 9 a, fun a => toL_le a 9, fun a => toL_lt 9 a, fun a => toL_lt a 9, fun a => toL_le 10 a, fun a => toL_le a 10, fun a => toL_lt 10 a, fun a => toL_lt a 10, fun a => toL_le 20 a, fun a => toL_le a 20, fun a => toL_lt 20 a, fun a => toL_lt a 20, fun a => toL_le 30 a, fun a => toL_le a 30, fun a => toL_lt 30 a, fun a => toL_lt a 30, fun a => toL_le 40 a, fun a => toL_le a 40, fun a => toL_lt 40 a, fun a => toL_lt a 40, fun a => toL_le 60 a, fun a => toL_le a 60, fun a => toL_lt 60 a, fun a => toL_lt a 60, fun a => toL_le 99 a, fun a => toL_le a 99, fun a => toL_lt 99 a, fun a => toL_lt a 99, fun a => toL_le 100 a, fun a => toL_le a 100, fun a => toL_lt 100 a, fun a => toL_lt a 100, fun a => toL_le 400 a, fun a => toL_le a 400, fun a => toL_lt 400 a, fun a => toL_lt a 400, fun a => toL_le 999 a, fun a => toL_le a 999, fun a => toL_lt 999 a, fun a => toL_lt a 999, fun a => toL_le 999999 a, fun a => toL_le a 999999, fun a => toL_lt 999999 a, fun a => toL_lt a 999999⟩
end
section
theorem inM : vp_in (0 : Int32) 65 = True ∧ vp_in (1 : Int32) 65 = True ∧ vp_in (2 : Int32) 65 = True ∧ vp_in (3 : Int32) 65 = True ∧ vp_in (4 : Int32) 65 = True ∧ vp_in (48 : Int32) 49 = True ∧ vp_in (0 : Int32) 2 = True ∧ vp_in (1 : Int32) 2 = True := by refine ⟨?_, ?_, ?_, ?_, ?_, ?_, ?_, ?_⟩ <;> exact eq_true (vp_in_nI (by decide) (by decide))
def S11 (as : List Value) (m : xM) (Q : xQt) : Prop := match as with
  | [.ref o, .int a] => wp (fun _ _ _ _ => False) (fun _ => false) Q (some .long) (TT []) none i11 [.ref o, .int a] [] m
  | _ => False
theorem s11 (o : Nat) (a : Int32) (m : xM) (Q : xQt) : S11 [.ref o, .int a] m Q = wp (fun _ _ _ _ => False) (fun _ => false) Q (some .long) (TT []) none i11 [.ref o, .int a] [] m := rfl
theorem t11 {G : xG} : ∀ as m Q, S11 as m Q → Tri G 11 as m Q := by
  intro as m Q h
  match as, h with
  | [.ref o, .int a], h => exact tri_wp (T := TT []) (ls := [.ref o, .int a]) TTn c11 (by decide +kernel) (rt0 := some .long) rfl rfl (Nat.le_of_ble_eq_true rfl) rfl h

def S13 (as : List Value) (m : xM) (Q : xQt) : Prop := match as with
  | [.ref o, .long a] => wp (fun _ _ _ _ => False) (fun _ => false) Q (some .long) (TT []) none i13 [.ref o, .long a, .null] [] m
  | _ => False
theorem s13 (o : Nat) (a : Int64) (m : xM) (Q : xQt) : S13 [.ref o, .long a] m Q = wp (fun _ _ _ _ => False) (fun _ => false) Q (some .long) (TT []) none i13 [.ref o, .long a, .null] [] m := rfl
theorem t13 {G : xG} : ∀ as m Q, S13 as m Q → Tri G 13 as m Q := by
  intro as m Q h
  match as, h with
  | [.ref o, .long a], h => exact tri_wp (T := TT []) (ls := [.ref o, .long a, .null]) TTn c13 (by decide +kernel) (rt0 := some .long) rfl rfl (Nat.le_of_ble_eq_true rfl) rfl h

def S10 (as : List Value) (m : xM) (Q : xQt) : Prop := match as with
  | [.int a] => Q (some (.int (bI (¬ a < 0 ∧ ¬ 8 ≤ a)))) (m)
  | _ => False
theorem s10 (a : Int32) (m : xM) (Q : xQt) : S10 [.int a] m Q = (Q (some (.int (bI (¬ a < 0 ∧ ¬ 8 ≤ a)))) (m)) := rfl
theorem t10 {G : xG} : ∀ as m Q, S10 as m Q → Tri G 10 as m Q := by
  intro as m Q h
  match as, h with
  | [.int a], h =>
    rw [s10] at h
    refine tri_wp (T := TT []) (ls := [.int a]) TTn c10 (by decide +kernel) (rt0 := some .boolean) rfl rfl (Nat.le_of_ble_eq_true rfl) rfl ?_
    simp only [i10, wp_iinc, wpE0, wpE1, wpE2, wpE3, wpE4, wpE5, wpJ, okS, lt4S, popR, litS, Int32.reduceLT, Int32.reduceLE, List.getElem?_cons_zero, List.getElem?_cons_succ, Bool.false_eq_true, ↓reduceIte, Nat.reduceMod, Nat.reduceDiv, Nat.reduceAdd, Nat.reduceSub, Nat.reduceMul, Nat.reduceLeDiff, Nat.reduceEqDiff, Nat.reduceBEq, Int.reduceToNat, Int.reduceAdd, Int32.reduceOfInt, Int64.reduceOfInt, Int32.reduceToNatClampNeg, Int32.reduceOfNat, Bool.or_self, Bool.or_false, Bool.false_or, Bool.true_or, Bool.or_true, true_and, and_true, false_and, and_false, List.set_cons_zero, List.set_cons_succ, List.take_succ_cons, List.take_zero, List.drop_succ_cons, List.drop_zero, List.reverse_cons, List.reverse_nil, List.nil_append, List.cons_append, List.length_cons, List.length_nil, Option.toList_some, Option.toList_none, not_true_eq_false, not_false_eq_true, forall_const, true_implies, false_implies, nrw, TTS, and01]
    repeat' (first | apply And.intro | intro _)
    all_goals first | trivial | exact h | (simp only [*, bI, ix, not_true_eq_false, not_false_eq_true, and_true, true_and, and_false, false_and, and_self, or_true, true_or, or_false, false_or, ↓reduceIte, if_true, if_false, eq_self] at h; exact h) | (simp only [*, not_true_eq_false, not_false_eq_true, and_true, true_and, and_false, false_and, and_self, or_true, true_or, or_false, false_or, ↓reduceIte, if_true, if_false, eq_self]; done)

def S148 (as : List Value) (m : xM) (Q : xQt) : Prop := match as with
  | [.long a, .long a2, .long a3] => Q (some (.int (bI (a2 ≤ a ∧ a ≤ a3)))) (m)
  | _ => False
theorem s148 (a : Int64) (a2 : Int64) (a3 : Int64) (m : xM) (Q : xQt) : S148 [.long a, .long a2, .long a3] m Q = (Q (some (.int (bI (a2 ≤ a ∧ a ≤ a3)))) (m)) := rfl
theorem t148 {G : xG} : ∀ as m Q, S148 as m Q → Tri G 148 as m Q := by
  intro as m Q h
  match as, h with
  | [.long a, .long a2, .long a3], h =>
    rw [s148] at h
    refine tri_wp (T := TT []) (ls := [.long a, .null, .long a2, .null, .long a3, .null]) TTn c148 (by decide +kernel) (rt0 := some .boolean) rfl rfl (Nat.le_of_ble_eq_true rfl) rfl ?_
    simp only [i148, wp_iinc, wpE0, wpE1, wpE2, wpE3, wpE4, wpE5, wpJ, okS, lt4S, popR, litS, Int32.reduceLT, Int32.reduceLE, List.getElem?_cons_zero, List.getElem?_cons_succ, Bool.false_eq_true, ↓reduceIte, Nat.reduceMod, Nat.reduceDiv, Nat.reduceAdd, Nat.reduceSub, Nat.reduceMul, Nat.reduceLeDiff, Nat.reduceEqDiff, Nat.reduceBEq, Int.reduceToNat, Int.reduceAdd, Int32.reduceOfInt, Int64.reduceOfInt, Int32.reduceToNatClampNeg, Int32.reduceOfNat, Bool.or_self, Bool.or_false, Bool.false_or, Bool.true_or, Bool.or_true, true_and, and_true, false_and, and_false, List.set_cons_zero, List.set_cons_succ, List.take_succ_cons, List.take_zero, List.drop_succ_cons, List.drop_zero, List.reverse_cons, List.reverse_nil, List.nil_append, List.cons_append, List.length_cons, List.length_nil, Option.toList_some, Option.toList_none, not_true_eq_false, not_false_eq_true, forall_const, true_implies, false_implies, nrw, TTS, and01, cmpS, gt_iff_lt, Int64.not_lt, Int64.not_le]
    refine ⟨fun q => ?_, fun q => ?_⟩
    · rw [bI_f (fun z => Int64.not_le.mpr q z.1)] at h; exact h
    · refine ⟨fun q2 => ?_, fun q2 => ?_⟩
      · rw [bI_f (fun z => Int64.not_le.mpr q2 z.2)] at h; exact h
      · rw [bI_t ⟨q, q2⟩] at h; exact h

def S147 (as : List Value) (m : xM) (Q : xQt) : Prop := match as with
  | [.int a] => Q (some (.int (bI (0 ≤ a ∧ a ≤ 7)))) (m)
  | _ => False
theorem s147 (a : Int32) (m : xM) (Q : xQt) : S147 [.int a] m Q = (Q (some (.int (bI (0 ≤ a ∧ a ≤ 7)))) (m)) := rfl
theorem t147 {G : xG} : ∀ as m Q, S147 as m Q → Tri G 147 as m Q := by
  intro as m Q h
  match as, h with
  | [.int a], h =>
    rw [s147] at h
    refine tri_wp (T := TT [(148, S148)]) (ls := [.int a]) (TTc t148 TTn) c147 (by decide +kernel) (rt0 := some .boolean) rfl rfl (Nat.le_of_ble_eq_true rfl) rfl ?_
    simp only [i147, wp_iinc, wpE0, wpE1, wpE2, wpE3, wpE4, wpE5, wpJ, okS, lt4S, popR, litS, Int32.reduceLT, Int32.reduceLE, List.getElem?_cons_zero, List.getElem?_cons_succ, Bool.false_eq_true, ↓reduceIte, Nat.reduceMod, Nat.reduceDiv, Nat.reduceAdd, Nat.reduceSub, Nat.reduceMul, Nat.reduceLeDiff, Nat.reduceEqDiff, Nat.reduceBEq, Int.reduceToNat, Int.reduceAdd, Int32.reduceOfInt, Int64.reduceOfInt, Int32.reduceToNatClampNeg, Int32.reduceOfNat, Bool.or_self, Bool.or_false, Bool.false_or, Bool.true_or, Bool.or_true, true_and, and_true, false_and, and_false, List.set_cons_zero, List.set_cons_succ, List.take_succ_cons, List.take_zero, List.drop_succ_cons, List.drop_zero, List.reverse_cons, List.reverse_nil, List.nil_append, List.cons_append, List.length_cons, List.length_nil, Option.toList_some, Option.toList_none, not_true_eq_false, not_false_eq_true, forall_const, true_implies, false_implies, nrw, TTS, s148, bI_and, toLS, i2lS]
    exact h

def S177 (as : List Value) (m : xM) (Q : xQt) : Prop := match as with
  | [.ref o, .int a] => (o = 86) ∧ Q (some (.int (bI (0 ≤ a ∧ a ≤ m.1 90 3 - 1)))) (m)
  | _ => False
theorem s177 (o : Nat) (a : Int32) (m : xM) (Q : xQt) : S177 [.ref o, .int a] m Q = ((o = 86) ∧ Q (some (.int (bI (0 ≤ a ∧ a ≤ m.1 90 3 - 1)))) (m)) := rfl
theorem t177 {G : xG} : ∀ as m Q, S177 as m Q → Tri G 177 as m Q := by
  intro as m Q h
  match as, h with
  | [.ref o, .int a], h =>
    obtain ⟨rfl, h⟩ := h
    refine tri_wp (T := TT [(148, S148)]) (ls := [.ref 86, .int a]) (TTc t148 TTn) c177 (by decide +kernel) (rt0 := some .boolean) rfl rfl (Nat.le_of_ble_eq_true rfl) rfl ?_
    simp only [i177, wp_iinc, wpE0, wpE1, wpE2, wpE3, wpE4, wpE5, wpJ, okS, lt4S, popR, litS, Int32.reduceLT, Int32.reduceLE, List.getElem?_cons_zero, List.getElem?_cons_succ, Bool.false_eq_true, ↓reduceIte, Nat.reduceMod, Nat.reduceDiv, Nat.reduceAdd, Nat.reduceSub, Nat.reduceMul, Nat.reduceLeDiff, Nat.reduceEqDiff, Nat.reduceBEq, Int.reduceToNat, Int.reduceAdd, Int32.reduceOfInt, Int64.reduceOfInt, Int32.reduceToNatClampNeg, Int32.reduceOfNat, Bool.or_self, Bool.or_false, Bool.false_or, Bool.true_or, Bool.or_true, true_and, and_true, false_and, and_false, List.set_cons_zero, List.set_cons_succ, List.take_succ_cons, List.take_zero, List.drop_succ_cons, List.drop_zero, List.reverse_cons, List.reverse_nil, List.nil_append, List.cons_append, List.length_cons, List.length_nil, Option.toList_some, Option.toList_none, not_true_eq_false, not_false_eq_true, forall_const, true_implies, false_implies, nrw, TTS, s148, shM, and01, bI_0, cmpS, bI_and, toL_le, toLS, i2lS, inM]
    exact h

def S172 (as : List Value) (m : xM) (Q : xQt) : Prop := match as with
  | [.ref o, .int a] => (o = 86) ∧ Q (some (.int (bI (0 ≤ a ∧ a ≤ m.1 90 4 - 1)))) (m)
  | _ => False
theorem s172 (o : Nat) (a : Int32) (m : xM) (Q : xQt) : S172 [.ref o, .int a] m Q = ((o = 86) ∧ Q (some (.int (bI (0 ≤ a ∧ a ≤ m.1 90 4 - 1)))) (m)) := rfl
theorem t172 {G : xG} : ∀ as m Q, S172 as m Q → Tri G 172 as m Q := by
  intro as m Q h
  match as, h with
  | [.ref o, .int a], h =>
    obtain ⟨rfl, h⟩ := h
    refine tri_wp (T := TT [(148, S148)]) (ls := [.ref 86, .int a]) (TTc t148 TTn) c172 (by decide +kernel) (rt0 := some .boolean) rfl rfl (Nat.le_of_ble_eq_true rfl) rfl ?_
    simp only [i172, wp_iinc, wpE0, wpE1, wpE2, wpE3, wpE4, wpE5, wpJ, okS, lt4S, popR, litS, Int32.reduceLT, Int32.reduceLE, List.getElem?_cons_zero, List.getElem?_cons_succ, Bool.false_eq_true, ↓reduceIte, Nat.reduceMod, Nat.reduceDiv, Nat.reduceAdd, Nat.reduceSub, Nat.reduceMul, Nat.reduceLeDiff, Nat.reduceEqDiff, Nat.reduceBEq, Int.reduceToNat, Int.reduceAdd, Int32.reduceOfInt, Int64.reduceOfInt, Int32.reduceToNatClampNeg, Int32.reduceOfNat, Bool.or_self, Bool.or_false, Bool.false_or, Bool.true_or, Bool.or_true, true_and, and_true, false_and, and_false, List.set_cons_zero, List.set_cons_succ, List.take_succ_cons, List.take_zero, List.drop_succ_cons, List.drop_zero, List.reverse_cons, List.reverse_nil, List.nil_append, List.cons_append, List.length_cons, List.length_nil, Option.toList_some, Option.toList_none, not_true_eq_false, not_false_eq_true, forall_const, true_implies, false_implies, nrw, TTS, s148, shM, and01, bI_0, cmpS, bI_and, toL_le, toLS, i2lS, inM]
    exact h

theorem sh7L : sh 7 = (4, 0) ∧ rt 7 6 = 8 ∧ rt 7 7 = 9 ∧ rt 7 8 = 10 ∧ rt 7 9 = 11 ∧ rt 7 10 = 12 ∧ rt 7 11 = 13 ∧ rt 7 12 = 14 ∧ rt 7 13 = 15 ∧ rt 7 14 = 16 ∧ rt 7 15 = 17 ∧ rt 7 16 = 18 ∧ rt 7 17 = 19 ∧ rt 7 18 = 20 ∧ sh 8 = (0, 6) ∧ sh 9 = (0, 6) ∧ sh 10 = (0, 6) ∧ sh 11 = (0, 6) ∧ sh 12 = (0, 6) ∧ sh 13 = (0, 6) ∧ sh 14 = (0, 6) ∧ sh 15 = (0, 6) ∧ sh 16 = (0, 12) ∧ sh 17 = (0, 12) ∧ sh 18 = (0, 12) ∧ sh 19 = (0, 12) ∧ sh 20 = (0, 12) := by decide +kernel
theorem sh21L : sh 21 = (4, 0) ∧ rt 21 6 = 22 ∧ rt 21 7 = 23 ∧ rt 21 8 = 24 ∧ rt 21 9 = 25 ∧ rt 21 10 = 26 ∧ rt 21 11 = 27 ∧ rt 21 12 = 28 ∧ rt 21 13 = 29 ∧ rt 21 14 = 30 ∧ rt 21 15 = 31 ∧ rt 21 16 = 32 ∧ rt 21 17 = 33 ∧ rt 21 18 = 34 ∧ sh 22 = (0, 6) ∧ sh 23 = (0, 6) ∧ sh 24 = (0, 6) ∧ sh 25 = (0, 6) ∧ sh 26 = (0, 6) ∧ sh 27 = (0, 6) ∧ sh 28 = (0, 6) ∧ sh 29 = (0, 6) ∧ sh 30 = (0, 12) ∧ sh 31 = (0, 12) ∧ sh 32 = (0, 12) ∧ sh 33 = (0, 12) ∧ sh 34 = (0, 12) := by decide +kernel
theorem sh35L : sh 35 = (4, 0) ∧ rt 35 6 = 36 ∧ rt 35 7 = 37 ∧ rt 35 8 = 38 ∧ rt 35 9 = 39 ∧ rt 35 10 = 40 ∧ rt 35 11 = 41 ∧ rt 35 12 = 42 ∧ rt 35 13 = 43 ∧ rt 35 14 = 44 ∧ rt 35 15 = 45 ∧ rt 35 16 = 46 ∧ rt 35 17 = 47 ∧ rt 35 18 = 48 ∧ sh 36 = (0, 6) ∧ sh 37 = (0, 6) ∧ sh 38 = (0, 6) ∧ sh 39 = (0, 6) ∧ sh 40 = (0, 6) ∧ sh 41 = (0, 6) ∧ sh 42 = (0, 6) ∧ sh 43 = (0, 6) ∧ sh 44 = (0, 12) ∧ sh 45 = (0, 12) ∧ sh 46 = (0, 12) ∧ sh 47 = (0, 12) ∧ sh 48 = (0, 12) := by decide +kernel
theorem sh49L : sh 49 = (4, 0) ∧ rt 49 6 = 50 ∧ rt 49 7 = 51 ∧ rt 49 8 = 52 ∧ rt 49 9 = 53 ∧ rt 49 10 = 54 ∧ rt 49 11 = 55 ∧ rt 49 12 = 56 ∧ rt 49 13 = 57 ∧ rt 49 14 = 58 ∧ rt 49 15 = 59 ∧ rt 49 16 = 60 ∧ rt 49 17 = 61 ∧ rt 49 18 = 62 ∧ sh 50 = (0, 6) ∧ sh 51 = (0, 6) ∧ sh 52 = (0, 6) ∧ sh 53 = (0, 6) ∧ sh 54 = (0, 6) ∧ sh 55 = (0, 6) ∧ sh 56 = (0, 6) ∧ sh 57 = (0, 6) ∧ sh 58 = (0, 12) ∧ sh 59 = (0, 12) ∧ sh 60 = (0, 12) ∧ sh 61 = (0, 12) ∧ sh 62 = (0, 12) := by decide +kernel
theorem sh65L : sh 65 = (4, 0) ∧ rt 65 6 = 66 ∧ rt 65 7 = 67 ∧ rt 65 8 = 68 ∧ rt 65 9 = 69 ∧ rt 65 10 = 70 ∧ rt 65 11 = 71 ∧ rt 65 12 = 72 ∧ rt 65 13 = 73 ∧ rt 65 14 = 74 ∧ rt 65 15 = 75 ∧ rt 65 16 = 76 ∧ rt 65 17 = 77 ∧ rt 65 18 = 78 ∧ sh 66 = (0, 6) ∧ sh 67 = (0, 6) ∧ sh 68 = (0, 6) ∧ sh 69 = (0, 6) ∧ sh 70 = (0, 6) ∧ sh 71 = (0, 6) ∧ sh 72 = (0, 6) ∧ sh 73 = (0, 6) ∧ sh 74 = (0, 12) ∧ sh 75 = (0, 12) ∧ sh 76 = (0, 12) ∧ sh 77 = (0, 12) ∧ sh 78 = (0, 12) := by decide +kernel
theorem R_nb {m : xM} (hR : REL m) : m.1 90 3 = m.1 7 4 := hR.club.1.1.2.2.2.1.symm
theorem R_nh {m : xM} (hR : REL m) : m.1 90 4 = m.1 7 5 := hR.club.1.1.2.2.2.2.symm
theorem R_wa {m : xM} (hR : REL m) : m.1 7 0 = m.1 90 0 := hR.club.1.1.1
theorem R_wi {m : xM} (hR : REL m) : m.1 7 1 = m.1 90 1 := hR.club.1.1.2.1
theorem R_mu {m : xM} (hR : REL m) : m.1 7 2 = m.1 90 2 := hR.club.1.1.2.2.1
theorem V_nb {m : xM} (hR : REL m) : bt (m.1 7 4) 0 6 := hR.club.2.2.2.1.1.2.2.2.1
theorem V_nh {m : xM} (hR : REL m) : bt (m.1 7 5) 0 12 := hR.club.2.2.2.1.1.2.2.2.2
theorem V_wa {m : xM} (hR : REL m) : bt (m.1 7 0) 0 30 := hR.club.2.2.2.1.1.1
theorem V_wi {m : xM} (hR : REL m) : bt (m.1 7 1) 0 40 := hR.club.2.2.2.1.1.2.1
theorem V_mu {m : xM} (hR : REL m) : m.1 7 2 = 0 ∨ m.1 7 2 = 1 := hR.club.2.2.2.1.1.2.2.1
theorem ix_b {a : Int32} {n : Nat} {l : Int} (hl : 0 ≤ l) (h : bt a l n) : ix a ≤ n ∧ a = nI (ix a) := by
  have h1 := h.1
  have h2 := h.2
  have e : ¬ a < 0 := by rw [Int32.lt_iff_toInt_lt]; show ¬ a.toInt < 0; omega
  refine ⟨?_, (ix_of e).1⟩
  show a.toInt.toNat ≤ n
  omega
theorem L_nb {m : xM} (hR : REL m) : ix (m.1 7 4) ≤ 6 := (ix_b (by decide) (V_nb hR)).1
theorem L_nh {m : xM} (hR : REL m) : ix (m.1 7 5) ≤ 12 := (ix_b (by decide) (V_nh hR)).1
theorem R_b {m : xM} (hR : REL m) {j : Nat} (hj : j < ix (m.1 7 4)) : m.1 12 j = m.1 92 (4 * j + 0) ∧ m.1 13 j = m.1 92 (4 * j + 1) ∧ m.1 14 j = m.1 92 (4 * j + 2) ∧ m.1 15 j = m.1 92 (4 * j + 3) ∧ m.1 8 j = m.1 90 (5 + 4 * j + 0) ∧ m.1 9 j = m.1 90 (5 + 4 * j + 1) ∧ m.1 10 j = m.1 90 (5 + 4 * j + 2) ∧ m.1 11 j = m.1 90 (5 + 4 * j + 3) := by
  have h6 := L_nb hR
  have e1 := hR.club.2.1.1 j (by omega)
  have e2 := hR.club.1.2.1 j (by rw [R_nb hR]; exact hj)
  exact ⟨e1.1, e1.2.1, e1.2.2.1, e1.2.2.2, e2.1, e2.2.1, e2.2.2.1, e2.2.2.2⟩
theorem R_h {m : xM} (hR : REL m) {j : Nat} (hj : j < ix (m.1 7 5)) : m.1 19 j = m.1 92 (24 + 2 * j) ∧ m.1 20 j = m.1 92 (24 + 2 * j + 1) ∧ m.1 16 j = m.1 90 (29 + 3 * j + 0) ∧ m.1 17 j = m.1 90 (29 + 3 * j + 1) ∧ m.1 18 j = m.1 90 (29 + 3 * j + 2) := by
  have e1 := hR.club.2.1.2 j (by rw [R_nh hR]; exact hj)
  have e2 := hR.club.1.2.2 j (by rw [R_nh hR]; exact hj)
  exact ⟨e1.1, e1.2, e2.1, e2.2.1, e2.2.2⟩
theorem V_b {m : xM} (hR : REL m) {j : Nat} (hj : j < ix (m.1 7 4)) : bt (m.1 12 j) 0 4 ∧ bt (m.1 13 j) 0 100 ∧ bt (m.1 14 j) 0 70 ∧ bt (m.1 8 j) 1 30 ∧ bt (m.1 9 j) 1 30 ∧ bt (m.1 10 j) 0 9 ∧ bt (m.1 11 j) 0 20 := by
  have e1 := hR.club.2.2.2.2.1 j hj
  have e2 := hR.club.2.2.2.1.2.1 j hj
  exact ⟨e1.1, e1.2.1, e1.2.2, e2.1, e2.2.1, e2.2.2.1, e2.2.2.2⟩
theorem V_h {m : xM} (hR : REL m) {j : Nat} (hj : j < ix (m.1 7 5)) : bt (m.1 19 j) 0 3 ∧ bt (m.1 20 j) 0 1000 ∧ (0 ≤ (m.1 16 j).toInt ∧ (m.1 16 j).toInt < (m.1 7 4).toInt) ∧ bt (m.1 17 j) 20 150 ∧ bt (m.1 18 j) 1 60 := by
  have e1 := hR.club.2.2.2.2.2 j hj
  have e2 := hR.club.2.2.2.1.2.2.1 j hj
  exact ⟨e1.1, e1.2, e2.1, e2.2.1, e2.2.2⟩
theorem in_ix {a N : Int32} {n : Nat} (hN : bt N 0 n) (hn : n ≤ 1000) (h : ¬ a < 0 ∧ ¬ N ≤ a) : ∃ j, j < n ∧ a = nI j ∧ j < ix N ∧ ix (nI j) = j ∧ vp_in (nI j) n := by
  obtain ⟨e1, e2⟩ := ix_of h.1
  have h2 := h.2
  have h3 := (ix_b (by decide) hN).1
  rw [e1, ix_le _ e2] at h2
  refine ⟨ix a, by omega, e1, by omega, ?_, ?_⟩
  · rw [← e1]
  · rw [← e1]; exact xin h.1 (by omega)
theorem isB_of {m : xM} (hR : REL m) {a : Int32} (h : ¬ a < 0 ∧ ¬ m.1 7 4 ≤ a) : ∃ j, j < 6 ∧ a = nI j ∧ j < ix (m.1 7 4) ∧ ix (nI j) = j ∧ vp_in (nI j) 6 := in_ix (V_nb hR) (by decide) h
theorem isH_of {m : xM} (hR : REL m) {a : Int32} (h : ¬ a < 0 ∧ ¬ m.1 7 5 ≤ a) : ∃ j, j < 12 ∧ a = nI j ∧ j < ix (m.1 7 5) ∧ ix (nI j) = j ∧ vp_in (nI j) 12 := in_ix (V_nh hR) (by decide) h
theorem in_1 {a N : Int32} {u : Int} (hN : bt N 0 u) : (0 ≤ a ∧ a ≤ N - 1) = (¬ a < 0 ∧ ¬ N ≤ a) := by
  have h1 := hN.1
  have h2 := N.toInt_lt
  have e : (N - 1).toInt = N.toInt - 1 := by
    rw [fb_subI (by show -2147483648 ≤ N.toInt - 1; omega) (by show N.toInt - 1 < 2147483648; omega)]; rfl
  apply propext
  simp only [Int32.lt_iff_toInt_lt, Int32.le_iff_toInt_le, e]
  show (0 : Int) ≤ a.toInt ∧ _ ↔ ¬ a.toInt < 0 ∧ _
  omega
theorem m_isB {m : xM} (hR : REL m) (a : Int32) : (0 ≤ a ∧ a ≤ m.1 90 3 - 1) = (¬ a < 0 ∧ ¬ m.1 7 4 ≤ a) := by rw [R_nb hR]; exact in_1 (V_nb hR)
theorem m_isH {m : xM} (hR : REL m) (a : Int32) : (0 ≤ a ∧ a ≤ m.1 90 4 - 1) = (¬ a < 0 ∧ ¬ m.1 7 5 ≤ a) := by rw [R_nh hR]; exact in_1 (V_nh hR)
end
section
theorem updU (f : Nat → Int32) (j : Nat) (x y : Int32) : upd (upd f j x) j y = upd f j y := by
  funext i
  simp only [upd]
  by_cases h : i = j <;> simp [h]
theorem nI_sub {a b : Nat} (h : b ≤ a) : nI a - nI b = nI (a - b) := by
  have e : nI a = nI (a - b) + nI b := by rw [nI_add]; congr 1; omega
  rw [e]
  exact Int32.add_sub_cancel _ _
theorem nI_s2 {x : Nat} (h : 2 ≤ x) : nI x - 2 = nI (x - 2) := nI_sub h
theorem REL_thr {m : xM} (hR : REL m) (v : Int32) : REL (xa m 86 (upd (m.1 86) 0 v)) := by
  exact REL.mk (by exact hR.rows) (by exact hR.tape) (by exact hR.club) (by exact hR.there) (by exact hR.im0) (by exact hR.im1) (by exact hR.kept0) (by exact hR.kept1) (by exact hR.fault) (by exact hR.status) (by exact hR.trace) (by exact hR.still)

def S130 (as : List Value) (m : xM) (Q : xQt) : Prop := match as with
  | [.int a] => wp (fun _ _ _ _ => False) (fun _ => false) Q (some .int) (TT []) none i130 [.int a] [] m
  | _ => False
theorem s130 (a : Int32) (m : xM) (Q : xQt) : S130 [.int a] m Q = wp (fun _ _ _ _ => False) (fun _ => false) Q (some .int) (TT []) none i130 [.int a] [] m := rfl
theorem t130 {G : xG} : ∀ as m Q, S130 as m Q → Tri G 130 as m Q := by
  intro as m Q h
  match as, h with
  | [.int a], h => exact tri_wp (T := TT []) (ls := [.int a]) TTn c130 (by decide +kernel) (rt0 := some .int) rfl rfl (Nat.le_of_ble_eq_true rfl) rfl h

def S132 (as : List Value) (m : xM) (Q : xQt) : Prop := match as with
  | [.int a] => wp (fun _ _ _ _ => False) (fun _ => false) Q (some .boolean) (TT []) none i132 [.int a] [] m
  | _ => False
theorem s132 (a : Int32) (m : xM) (Q : xQt) : S132 [.int a] m Q = wp (fun _ _ _ _ => False) (fun _ => false) Q (some .boolean) (TT []) none i132 [.int a] [] m := rfl
theorem t132 {G : xG} : ∀ as m Q, S132 as m Q → Tri G 132 as m Q := by
  intro as m Q h
  match as, h with
  | [.int a], h => exact tri_wp (T := TT []) (ls := [.int a]) TTn c132 (by decide +kernel) (rt0 := some .boolean) rfl rfl (Nat.le_of_ble_eq_true rfl) rfl h

def S224 (as : List Value) (m : xM) (Q : xQt) : Prop := match as with
  | [.ref o, .int a] => wp (fun _ _ _ _ => False) (fun _ => false) Q (some .int) (TT []) none i224 [.ref o, .int a, .null] [] m
  | _ => False
theorem s224 (o : Nat) (a : Int32) (m : xM) (Q : xQt) : S224 [.ref o, .int a] m Q = wp (fun _ _ _ _ => False) (fun _ => false) Q (some .int) (TT []) none i224 [.ref o, .int a, .null] [] m := rfl
theorem t224 {G : xG} : ∀ as m Q, S224 as m Q → Tri G 224 as m Q := by
  intro as m Q h
  match as, h with
  | [.ref o, .int a], h => exact tri_wp (T := TT []) (ls := [.ref o, .int a, .null]) TTn c224 (by decide +kernel) (rt0 := some .int) rfl rfl (Nat.le_of_ble_eq_true rfl) rfl h

def S226 (as : List Value) (m : xM) (Q : xQt) : Prop := match as with
  | [.int a, .int a2] => wp (fun _ _ _ _ => False) (fun _ => false) Q (some .boolean) (TT []) none i226 [.int a, .int a2] [] m
  | _ => False
theorem s226 (a : Int32) (a2 : Int32) (m : xM) (Q : xQt) : S226 [.int a, .int a2] m Q = wp (fun _ _ _ _ => False) (fun _ => false) Q (some .boolean) (TT []) none i226 [.int a, .int a2] [] m := rfl
theorem t226 {G : xG} : ∀ as m Q, S226 as m Q → Tri G 226 as m Q := by
  intro as m Q h
  match as, h with
  | [.int a, .int a2], h => exact tri_wp (T := TT []) (ls := [.int a, .int a2]) TTn c226 (by decide +kernel) (rt0 := some .boolean) rfl rfl (Nat.le_of_ble_eq_true rfl) rfl h

def S149 (as : List Value) (m : xM) (Q : xQt) : Prop := match as with
  | [.ref o, .int a] => wp (fun _ _ _ _ => False) (fun _ => false) Q (some .long) (TT []) none i149 [.ref o, .int a] [] m
  | _ => False
theorem s149 (o : Nat) (a : Int32) (m : xM) (Q : xQt) : S149 [.ref o, .int a] m Q = wp (fun _ _ _ _ => False) (fun _ => false) Q (some .long) (TT []) none i149 [.ref o, .int a] [] m := rfl
theorem t149 {G : xG} : ∀ as m Q, S149 as m Q → Tri G 149 as m Q := by
  intro as m Q h
  match as, h with
  | [.ref o, .int a], h => exact tri_wp (T := TT []) (ls := [.ref o, .int a]) TTn c149 (by decide +kernel) (rt0 := some .long) rfl rfl (Nat.le_of_ble_eq_true rfl) rfl h

theorem p144 {G : xG} {m : xM} (hR : REL m) {Q : xQt} (h : ∀ r m1, MID G 236 [.ref 86] r m1 → Q (some r) m1) : Tri G 144 [.ref 0] m Q := by
  refine tri_wp (T := TT []) (ls := [.ref 0]) TTn c144 (by decide +kernel) (rt0 := some .int) rfl rfl (Nat.le_of_ble_eq_true rfl) rfl ?_
  simp only [i144, wp_iinc, wpE0, wpE1, wpE2, wpE3, wpE4, wpE5, wpJ, okS, lt4S, popR, litS, Int32.reduceLT, Int32.reduceLE, List.getElem?_cons_zero, List.getElem?_cons_succ, Bool.false_eq_true, ↓reduceIte, Nat.reduceMod, Nat.reduceDiv, Nat.reduceAdd, Nat.reduceSub, Nat.reduceMul, Nat.reduceLeDiff, Nat.reduceEqDiff, Nat.reduceBEq, Int.reduceToNat, Int.reduceAdd, Int32.reduceOfInt, Int64.reduceOfInt, Int32.reduceToNatClampNeg, Int32.reduceOfNat, Bool.or_self, Bool.or_false, Bool.false_or, Bool.true_or, Bool.or_true, true_and, and_true, false_and, and_false, List.set_cons_zero, List.set_cons_succ, List.take_succ_cons, List.take_zero, List.drop_succ_cons, List.drop_zero, List.reverse_cons, List.reverse_nil, List.nil_append, List.cons_append, List.length_cons, List.length_nil, Option.toList_some, Option.toList_none, not_true_eq_false, not_false_eq_true, forall_const, true_implies, false_implies, nrw, TTS, shO, sh7L, and01, bI_0, bI_and, isCl, isRl, cmpS, toLS, toL_le, toL_lt, i2lS, inM, Int64.reduceLE, Int64.reduceLT, xa_1, xa_2, xa_xa, upd_at, updU, Nat.reduceEqDiff, ↓reduceIte, not_true_eq_false, not_false_eq_true, and_true, true_and, and_false, false_and, and_self, or_true, true_or, or_false, false_or, ↓reduceIte, if_true, if_false, eq_self]
  refine h _ _ (fun Q' hq => ?_)
  refine tri_wp (T := TT []) (ls := [.ref 86]) TTn c236 (by decide +kernel) (rt0 := some .int) rfl rfl (Nat.le_of_ble_eq_true rfl) rfl ?_
  simp only [i236, wp_iinc, wpE0, wpE1, wpE2, wpE3, wpE4, wpE5, wpJ, okS, lt4S, popR, litS, Int32.reduceLT, Int32.reduceLE, List.getElem?_cons_zero, List.getElem?_cons_succ, Bool.false_eq_true, ↓reduceIte, Nat.reduceMod, Nat.reduceDiv, Nat.reduceAdd, Nat.reduceSub, Nat.reduceMul, Nat.reduceLeDiff, Nat.reduceEqDiff, Nat.reduceBEq, Int.reduceToNat, Int.reduceAdd, Int32.reduceOfInt, Int64.reduceOfInt, Int32.reduceToNatClampNeg, Int32.reduceOfNat, Bool.or_self, Bool.or_false, Bool.false_or, Bool.true_or, Bool.or_true, true_and, and_true, false_and, and_false, List.set_cons_zero, List.set_cons_succ, List.take_succ_cons, List.take_zero, List.drop_succ_cons, List.drop_zero, List.reverse_cons, List.reverse_nil, List.nil_append, List.cons_append, List.length_cons, List.length_nil, Option.toList_some, Option.toList_none, not_true_eq_false, not_false_eq_true, forall_const, true_implies, false_implies, nrw, TTS, shM, shO, and01, bI_0, bI_and, isRl, cmpS, toLS, toL_le, toL_lt, i2lS, inM, Int64.reduceLE, Int64.reduceLT, xa_1, xa_2, xa_xa, upd_at, updU, linS, nI_add, nI_s2, clN, inN, inLS, Nat.reduceEqDiff, ↓reduceIte, not_true_eq_false, not_false_eq_true, and_true, true_and, and_false, false_and, and_self, or_true, true_or, or_false, false_or, ↓reduceIte, if_true, if_false, eq_self]
  rw [hR.status] at hq
  exact hq _ (REL_thr hR 0)

theorem p53 {G : xG} {m : xM} (hR : REL m) {Q : xQt} (h : ∀ r m1, MID G 170 [.ref 86] r m1 → Q (some r) m1) : Tri G 53 [.ref 0] m Q := by
  refine tri_wp (T := TT []) (ls := [.ref 0]) TTn c53 (by decide +kernel) (rt0 := some .int) rfl rfl (Nat.le_of_ble_eq_true rfl) rfl ?_
  simp only [i53, wp_iinc, wpE0, wpE1, wpE2, wpE3, wpE4, wpE5, wpJ, okS, lt4S, popR, litS, Int32.reduceLT, Int32.reduceLE, List.getElem?_cons_zero, List.getElem?_cons_succ, Bool.false_eq_true, ↓reduceIte, Nat.reduceMod, Nat.reduceDiv, Nat.reduceAdd, Nat.reduceSub, Nat.reduceMul, Nat.reduceLeDiff, Nat.reduceEqDiff, Nat.reduceBEq, Int.reduceToNat, Int.reduceAdd, Int32.reduceOfInt, Int64.reduceOfInt, Int32.reduceToNatClampNeg, Int32.reduceOfNat, Bool.or_self, Bool.or_false, Bool.false_or, Bool.true_or, Bool.or_true, true_and, and_true, false_and, and_false, List.set_cons_zero, List.set_cons_succ, List.take_succ_cons, List.take_zero, List.drop_succ_cons, List.drop_zero, List.reverse_cons, List.reverse_nil, List.nil_append, List.cons_append, List.length_cons, List.length_nil, Option.toList_some, Option.toList_none, not_true_eq_false, not_false_eq_true, forall_const, true_implies, false_implies, nrw, TTS, shO, sh7L, and01, bI_0, bI_and, isCl, isRl, cmpS, toLS, toL_le, toL_lt, i2lS, inM, Int64.reduceLE, Int64.reduceLT, xa_1, xa_2, xa_xa, upd_at, updU, Nat.reduceEqDiff, ↓reduceIte, not_true_eq_false, not_false_eq_true, and_true, true_and, and_false, false_and, and_self, or_true, true_or, or_false, false_or, ↓reduceIte, if_true, if_false, eq_self]
  refine h _ _ (fun Q' hq => ?_)
  refine tri_wp (T := TT []) (ls := [.ref 86]) TTn c170 (by decide +kernel) (rt0 := some .int) rfl rfl (Nat.le_of_ble_eq_true rfl) rfl ?_
  simp only [i170, wp_iinc, wpE0, wpE1, wpE2, wpE3, wpE4, wpE5, wpJ, okS, lt4S, popR, litS, Int32.reduceLT, Int32.reduceLE, List.getElem?_cons_zero, List.getElem?_cons_succ, Bool.false_eq_true, ↓reduceIte, Nat.reduceMod, Nat.reduceDiv, Nat.reduceAdd, Nat.reduceSub, Nat.reduceMul, Nat.reduceLeDiff, Nat.reduceEqDiff, Nat.reduceBEq, Int.reduceToNat, Int.reduceAdd, Int32.reduceOfInt, Int64.reduceOfInt, Int32.reduceToNatClampNeg, Int32.reduceOfNat, Bool.or_self, Bool.or_false, Bool.false_or, Bool.true_or, Bool.or_true, true_and, and_true, false_and, and_false, List.set_cons_zero, List.set_cons_succ, List.take_succ_cons, List.take_zero, List.drop_succ_cons, List.drop_zero, List.reverse_cons, List.reverse_nil, List.nil_append, List.cons_append, List.length_cons, List.length_nil, Option.toList_some, Option.toList_none, not_true_eq_false, not_false_eq_true, forall_const, true_implies, false_implies, nrw, TTS, shM, shO, and01, bI_0, bI_and, isRl, cmpS, toLS, toL_le, toL_lt, i2lS, inM, Int64.reduceLE, Int64.reduceLT, xa_1, xa_2, xa_xa, upd_at, updU, linS, nI_add, nI_s2, clN, inN, inLS, Nat.reduceEqDiff, ↓reduceIte, not_true_eq_false, not_false_eq_true, and_true, true_and, and_false, false_and, and_self, or_true, true_or, or_false, false_or, ↓reduceIte, if_true, if_false, eq_self]
  rw [hR.fault] at hq
  exact hq _ (REL_thr hR 0)

theorem n12 {m : xM} (hR : REL m) : m.1 7 5 ≤ 12 := bt_le (V_nh hR) rfl
theorem n12' {m : xM} (hR : REL m) : m.1 90 4 ≤ 12 := by rw [R_nh hR]; exact n12 hR
theorem n6 {m : xM} (hR : REL m) : m.1 7 4 ≤ 6 := bt_le (V_nb hR) rfl
theorem bb' {m : xM} (hR : REL m) {j : Nat} (h : j < ix (m.1 7 4)) : j < ix (m.1 90 3) := by rw [R_nb hR]; exact h
theorem nin {a : Int32} {n : Nat} (h : ∀ i : Nat, i < n + 1 → ¬ a = nI i) (hn : n < 2 ^ 30) : (0 ≤ a ∧ a ≤ nI n) = False := by
  refine eq_false fun q => ?_
  obtain ⟨q1, q2⟩ := q
  have e : ¬ a < 0 := by rw [Int32.lt_iff_toInt_lt]; rw [Int32.le_iff_toInt_le] at q1; exact Int.not_lt.mpr q1
  obtain ⟨e1, e2⟩ := ix_of e
  exact h (ix a) (by have := ix_max (N := a) q2 (by omega); omega) e1

theorem p129 {G : xG} {m : xM} (hR : REL m) (a : Int32) {Q : xQt} (h : ∀ r m1, MID G 223 [.ref 86, .int a] r m1 → Q (some r) m1) : Tri G 129 [.ref 0, .int a] m Q := by
  by_cases hb : ¬ a < 0 ∧ ¬ m.1 7 4 ≤ a
  · obtain ⟨j, hj, rfl, hjb, hij, hin⟩ := isB_of hR hb
    have hmb := m_isB hR (nI j)
    obtain ⟨e1, e2, e3, e4, e5, e6, e7, e8⟩ := R_b hR hjb
    obtain ⟨v1, v2, v3, v4, v5, v6, v7⟩ := V_b hR hjb
    refine tri_wp (T := TT [(59, S59), (130, S130)]) (ls := [.ref 0, .int (nI j)]) (TTc t59 (TTc t130 TTn)) c129 (by decide +kernel) (rt0 := some .long) rfl rfl (Nat.le_of_ble_eq_true rfl) rfl ?_
    simp (disch := omega) only [i129, wp_iinc, wpE0, wpE1, wpE2, wpE3, wpE4, wpE5, wpJ, okS, lt4S, popR, litS, Int32.reduceLT, Int32.reduceLE, List.getElem?_cons_zero, List.getElem?_cons_succ, Bool.false_eq_true, ↓reduceIte, Nat.reduceMod, Nat.reduceDiv, Nat.reduceAdd, Nat.reduceSub, Nat.reduceMul, Nat.reduceLeDiff, Nat.reduceEqDiff, Nat.reduceBEq, Int.reduceToNat, Int.reduceAdd, Int32.reduceOfInt, Int64.reduceOfInt, Int32.reduceToNatClampNeg, Int32.reduceOfNat, Bool.or_self, Bool.or_false, Bool.false_or, Bool.true_or, Bool.or_true, true_and, and_true, false_and, and_false, List.set_cons_zero, List.set_cons_succ, List.take_succ_cons, List.take_zero, List.drop_succ_cons, List.drop_zero, List.reverse_cons, List.reverse_nil, List.nil_append, List.cons_append, List.length_cons, List.length_nil, Option.toList_some, Option.toList_none, not_true_eq_false, not_false_eq_true, forall_const, true_implies, false_implies, nrw, TTS, s59, s130, i130, shO, sh7L, and01, bI_0, bI_and, isCl, isRl, cmpS, toLS, toL_le, toL_lt, i2lS, inM, Int64.reduceLE, Int64.reduceLT, xa_1, xa_2, xa_xa, upd_at, updU, Nat.reduceEqDiff, ↓reduceIte, not_true_eq_false, not_false_eq_true, and_true, true_and, and_false, false_and, and_self, or_true, true_or, or_false, false_or, ↓reduceIte, if_true, if_false, eq_self, hb, hij, hin]
    refine h _ _ (fun Q' hq => ?_)
    refine tri_wp (T := TT [(177, S177), (224, S224)]) (ls := [.ref 86, .int (nI j)]) (TTc t177 (TTc t224 TTn)) c223 (by decide +kernel) (rt0 := some .long) rfl rfl (Nat.le_of_ble_eq_true rfl) rfl ?_
    simp (disch := omega) only [i223, wp_iinc, wpE0, wpE1, wpE2, wpE3, wpE4, wpE5, wpJ, okS, lt4S, popR, litS, Int32.reduceLT, Int32.reduceLE, List.getElem?_cons_zero, List.getElem?_cons_succ, Bool.false_eq_true, ↓reduceIte, Nat.reduceMod, Nat.reduceDiv, Nat.reduceAdd, Nat.reduceSub, Nat.reduceMul, Nat.reduceLeDiff, Nat.reduceEqDiff, Nat.reduceBEq, Int.reduceToNat, Int.reduceAdd, Int32.reduceOfInt, Int64.reduceOfInt, Int32.reduceToNatClampNeg, Int32.reduceOfNat, Bool.or_self, Bool.or_false, Bool.false_or, Bool.true_or, Bool.or_true, true_and, and_true, false_and, and_false, List.set_cons_zero, List.set_cons_succ, List.take_succ_cons, List.take_zero, List.drop_succ_cons, List.drop_zero, List.reverse_cons, List.reverse_nil, List.nil_append, List.cons_append, List.length_cons, List.length_nil, Option.toList_some, Option.toList_none, not_true_eq_false, not_false_eq_true, forall_const, true_implies, false_implies, nrw, TTS, s177, s224, i224, shM, shO, and01, bI_0, bI_and, isRl, cmpS, toLS, toL_le, toL_lt, i2lS, inM, Int64.reduceLE, Int64.reduceLT, xa_1, xa_2, xa_xa, upd_at, updU, linS, nI_add, nI_s2, clN, inN, inLS, Nat.reduceEqDiff, ↓reduceIte, not_true_eq_false, not_false_eq_true, and_true, true_and, and_false, false_and, and_self, or_true, true_or, or_false, false_or, ↓reduceIte, if_true, if_false, eq_self, hmb, hb, hij, hin]
    rw [e1] at hq v1
    refine ⟨fun z => ?_, fun z => ?_⟩
    · rw [z] at hq
      exact hq _ (REL_thr hR 0)
    · exact hq _ (REL_thr hR 0)
  · have hmb := m_isB hR a
    refine tri_wp (T := TT [(59, S59), (130, S130)]) (ls := [.ref 0, .int a]) (TTc t59 (TTc t130 TTn)) c129 (by decide +kernel) (rt0 := some .long) rfl rfl (Nat.le_of_ble_eq_true rfl) rfl ?_
    simp only [i129, wp_iinc, wpE0, wpE1, wpE2, wpE3, wpE4, wpE5, wpJ, okS, lt4S, popR, litS, Int32.reduceLT, Int32.reduceLE, List.getElem?_cons_zero, List.getElem?_cons_succ, Bool.false_eq_true, ↓reduceIte, Nat.reduceMod, Nat.reduceDiv, Nat.reduceAdd, Nat.reduceSub, Nat.reduceMul, Nat.reduceLeDiff, Nat.reduceEqDiff, Nat.reduceBEq, Int.reduceToNat, Int.reduceAdd, Int32.reduceOfInt, Int64.reduceOfInt, Int32.reduceToNatClampNeg, Int32.reduceOfNat, Bool.or_self, Bool.or_false, Bool.false_or, Bool.true_or, Bool.or_true, true_and, and_true, false_and, and_false, List.set_cons_zero, List.set_cons_succ, List.take_succ_cons, List.take_zero, List.drop_succ_cons, List.drop_zero, List.reverse_cons, List.reverse_nil, List.nil_append, List.cons_append, List.length_cons, List.length_nil, Option.toList_some, Option.toList_none, not_true_eq_false, not_false_eq_true, forall_const, true_implies, false_implies, nrw, TTS, s59, s130, i130, shO, sh7L, and01, bI_0, bI_and, isCl, isRl, cmpS, toLS, toL_le, toL_lt, i2lS, inM, Int64.reduceLE, Int64.reduceLT, xa_1, xa_2, xa_xa, upd_at, updU, Nat.reduceEqDiff, ↓reduceIte, not_true_eq_false, not_false_eq_true, and_true, true_and, and_false, false_and, and_self, or_true, true_or, or_false, false_or, ↓reduceIte, if_true, if_false, eq_self, hb]
    refine h _ _ (fun Q' hq => ?_)
    refine tri_wp (T := TT [(177, S177), (224, S224)]) (ls := [.ref 86, .int a]) (TTc t177 (TTc t224 TTn)) c223 (by decide +kernel) (rt0 := some .long) rfl rfl (Nat.le_of_ble_eq_true rfl) rfl ?_
    simp only [i223, wp_iinc, wpE0, wpE1, wpE2, wpE3, wpE4, wpE5, wpJ, okS, lt4S, popR, litS, Int32.reduceLT, Int32.reduceLE, List.getElem?_cons_zero, List.getElem?_cons_succ, Bool.false_eq_true, ↓reduceIte, Nat.reduceMod, Nat.reduceDiv, Nat.reduceAdd, Nat.reduceSub, Nat.reduceMul, Nat.reduceLeDiff, Nat.reduceEqDiff, Nat.reduceBEq, Int.reduceToNat, Int.reduceAdd, Int32.reduceOfInt, Int64.reduceOfInt, Int32.reduceToNatClampNeg, Int32.reduceOfNat, Bool.or_self, Bool.or_false, Bool.false_or, Bool.true_or, Bool.or_true, true_and, and_true, false_and, and_false, List.set_cons_zero, List.set_cons_succ, List.take_succ_cons, List.take_zero, List.drop_succ_cons, List.drop_zero, List.reverse_cons, List.reverse_nil, List.nil_append, List.cons_append, List.length_cons, List.length_nil, Option.toList_some, Option.toList_none, not_true_eq_false, not_false_eq_true, forall_const, true_implies, false_implies, nrw, TTS, s177, s224, i224, shM, shO, and01, bI_0, bI_and, isRl, cmpS, toLS, toL_le, toL_lt, i2lS, inM, Int64.reduceLE, Int64.reduceLT, xa_1, xa_2, xa_xa, upd_at, updU, linS, nI_add, nI_s2, clN, inN, inLS, Nat.reduceEqDiff, ↓reduceIte, not_true_eq_false, not_false_eq_true, and_true, true_and, and_false, false_and, and_self, or_true, true_or, or_false, false_or, ↓reduceIte, if_true, if_false, eq_self, hmb, hb]
    exact hq _ (REL_thr hR 0)

def S93 (as : List Value) (m : xM) (Q : xQt) : Prop := match as with
  | [.int a, .int a2] => wp (fun _ _ _ _ => False) (fun _ => false) Q (some .int) (TT []) none i93 [.int a, .int a2] [] m
  | _ => False
theorem s93 (a : Int32) (a2 : Int32) (m : xM) (Q : xQt) : S93 [.int a, .int a2] m Q = wp (fun _ _ _ _ => False) (fun _ => false) Q (some .int) (TT []) none i93 [.int a, .int a2] [] m := rfl
theorem t93 {G : xG} : ∀ as m Q, S93 as m Q → Tri G 93 as m Q := by
  intro as m Q h
  match as, h with
  | [.int a, .int a2], h => exact tri_wp (T := TT []) (ls := [.int a, .int a2]) TTn c93 (by decide +kernel) (rt0 := some .int) rfl rfl (Nat.le_of_ble_eq_true rfl) rfl h

def S92 (as : List Value) (m : xM) (Q : xQt) : Prop := match as with
  | [.int a] => wp (fun _ _ _ _ => False) (fun _ => false) Q (some .int) (TT [(93, S93)]) none i92 [.int a] [] m
  | _ => False
theorem s92 (a : Int32) (m : xM) (Q : xQt) : S92 [.int a] m Q = wp (fun _ _ _ _ => False) (fun _ => false) Q (some .int) (TT [(93, S93)]) none i92 [.int a] [] m := rfl
theorem t92 {G : xG} : ∀ as m Q, S92 as m Q → Tri G 92 as m Q := by
  intro as m Q h
  match as, h with
  | [.int a], h => exact tri_wp (T := TT [(93, S93)]) (ls := [.int a]) (TTc t93 TTn) c92 (by decide +kernel) (rt0 := some .int) rfl rfl (Nat.le_of_ble_eq_true rfl) rfl h

theorem sub20 {f : Int32} (h : bt f 0 20) : (20 - f).toInt = 20 - f.toInt := by
  have h1 := h.1
  have h2 := h.2
  rw [fb_subI (by show -2147483648 ≤ (20 : Int) - f.toInt; omega) (by show (20 : Int) - f.toInt < 2147483648; omega)]; rfl
theorem sub20_0 {f : Int32} (h : bt f 0 20) : (20 - f < 1) = (20 - f = 0) := by
  have h1 := h.1
  have h2 := h.2
  apply propext
  rw [Int32.lt_iff_toInt_lt, ← Int32.toInt_inj, sub20 h]
  show (20 : Int) - f.toInt < 1 ↔ (20 : Int) - f.toInt = 0
  omega

theorem p91 {G : xG} {m : xM} (hR : REL m) (a : Int32) {Q : xQt} (h : ∀ r m1, MID G 202 [.ref 86, .int a] r m1 → Q (some r) m1) : Tri G 91 [.ref 0, .int a] m Q := by
  by_cases hb : ¬ a < 0 ∧ ¬ m.1 7 4 ≤ a
  · obtain ⟨j, hj, rfl, hjb, hij, hin⟩ := isB_of hR hb
    have hmb := m_isB hR (nI j)
    obtain ⟨e1, e2, e3, e4, e5, e6, e7, e8⟩ := R_b hR hjb
    obtain ⟨v1, v2, v3, v4, v5, v6, v7⟩ := V_b hR hjb
    refine tri_wp (T := TT [(59, S59), (92, S92)]) (ls := [.ref 0, .int (nI j)]) (TTc t59 (TTc t92 TTn)) c91 (by decide +kernel) (rt0 := some .long) rfl rfl (Nat.le_of_ble_eq_true rfl) rfl ?_
    simp (disch := omega) only [i91, wp_iinc, wpE0, wpE1, wpE2, wpE3, wpE4, wpE5, wpJ, okS, lt4S, popR, litS, Int32.reduceLT, Int32.reduceLE, List.getElem?_cons_zero, List.getElem?_cons_succ, Bool.false_eq_true, ↓reduceIte, Nat.reduceMod, Nat.reduceDiv, Nat.reduceAdd, Nat.reduceSub, Nat.reduceMul, Nat.reduceLeDiff, Nat.reduceEqDiff, Nat.reduceBEq, Int.reduceToNat, Int.reduceAdd, Int32.reduceOfInt, Int64.reduceOfInt, Int32.reduceToNatClampNeg, Int32.reduceOfNat, Bool.or_self, Bool.or_false, Bool.false_or, Bool.true_or, Bool.or_true, true_and, and_true, false_and, and_false, List.set_cons_zero, List.set_cons_succ, List.take_succ_cons, List.take_zero, List.drop_succ_cons, List.drop_zero, List.reverse_cons, List.reverse_nil, List.nil_append, List.cons_append, List.length_cons, List.length_nil, Option.toList_some, Option.toList_none, not_true_eq_false, not_false_eq_true, forall_const, true_implies, false_implies, nrw, TTS, s59, s92, s93, i92, i93, shO, sh7L, and01, bI_0, bI_and, isCl, isRl, cmpS, toLS, toL_le, toL_lt, i2lS, inM, Int64.reduceLE, Int64.reduceLT, xa_1, xa_2, xa_xa, upd_at, updU, Nat.reduceEqDiff, ↓reduceIte, not_true_eq_false, not_false_eq_true, and_true, true_and, and_false, false_and, and_self, or_true, true_or, or_false, false_or, ↓reduceIte, if_true, if_false, eq_self, hb, hij, hin]
    rw [e8] at v7
    simp only [e8, le_nlt, sub20_0 v7]
    refine ⟨fun z => ⟨z, ?_⟩, fun z => ?_⟩
    · refine h _ _ (fun Q' hq => ?_)
      refine tri_wp (T := TT [(177, S177), (186, S186)]) (ls := [.ref 86, .int (nI j), .null]) (TTc t177 (TTc t186 TTn)) c202 (by decide +kernel) (rt0 := some .long) rfl rfl (Nat.le_of_ble_eq_true rfl) rfl ?_
      simp (disch := omega) only [i202, wp_iinc, wpE0, wpE1, wpE2, wpE3, wpE4, wpE5, wpJ, okS, lt4S, popR, litS, Int32.reduceLT, Int32.reduceLE, List.getElem?_cons_zero, List.getElem?_cons_succ, Bool.false_eq_true, ↓reduceIte, Nat.reduceMod, Nat.reduceDiv, Nat.reduceAdd, Nat.reduceSub, Nat.reduceMul, Nat.reduceLeDiff, Nat.reduceEqDiff, Nat.reduceBEq, Int.reduceToNat, Int.reduceAdd, Int32.reduceOfInt, Int64.reduceOfInt, Int32.reduceToNatClampNeg, Int32.reduceOfNat, Bool.or_self, Bool.or_false, Bool.false_or, Bool.true_or, Bool.or_true, true_and, and_true, false_and, and_false, List.set_cons_zero, List.set_cons_succ, List.take_succ_cons, List.take_zero, List.drop_succ_cons, List.drop_zero, List.reverse_cons, List.reverse_nil, List.nil_append, List.cons_append, List.length_cons, List.length_nil, Option.toList_some, Option.toList_none, not_true_eq_false, not_false_eq_true, forall_const, true_implies, false_implies, nrw, TTS, s177, s186, i186, shM, shO, and01, bI_0, bI_and, isRl, cmpS, toLS, toL_le, toL_lt, i2lS, inM, Int64.reduceLE, Int64.reduceLT, xa_1, xa_2, xa_xa, upd_at, updU, linS, nI_add, nI_s2, clN, inN, inLS, Nat.reduceEqDiff, ↓reduceIte, not_true_eq_false, not_false_eq_true, and_true, true_and, and_false, false_and, and_self, or_true, true_or, or_false, false_or, ↓reduceIte, if_true, if_false, eq_self, hmb, hb, hij, hin, z]
      exact hq _ (REL_thr hR 0)
    · have z := Classical.not_not.mp z
      refine h _ _ (fun Q' hq => ?_)
      refine tri_wp (T := TT [(177, S177), (186, S186)]) (ls := [.ref 86, .int (nI j), .null]) (TTc t177 (TTc t186 TTn)) c202 (by decide +kernel) (rt0 := some .long) rfl rfl (Nat.le_of_ble_eq_true rfl) rfl ?_
      simp (disch := omega) only [i202, wp_iinc, wpE0, wpE1, wpE2, wpE3, wpE4, wpE5, wpJ, okS, lt4S, popR, litS, Int32.reduceLT, Int32.reduceLE, List.getElem?_cons_zero, List.getElem?_cons_succ, Bool.false_eq_true, ↓reduceIte, Nat.reduceMod, Nat.reduceDiv, Nat.reduceAdd, Nat.reduceSub, Nat.reduceMul, Nat.reduceLeDiff, Nat.reduceEqDiff, Nat.reduceBEq, Int.reduceToNat, Int.reduceAdd, Int32.reduceOfInt, Int64.reduceOfInt, Int32.reduceToNatClampNeg, Int32.reduceOfNat, Bool.or_self, Bool.or_false, Bool.false_or, Bool.true_or, Bool.or_true, true_and, and_true, false_and, and_false, List.set_cons_zero, List.set_cons_succ, List.take_succ_cons, List.take_zero, List.drop_succ_cons, List.drop_zero, List.reverse_cons, List.reverse_nil, List.nil_append, List.cons_append, List.length_cons, List.length_nil, Option.toList_some, Option.toList_none, not_true_eq_false, not_false_eq_true, forall_const, true_implies, false_implies, nrw, TTS, s177, s186, i186, shM, shO, and01, bI_0, bI_and, isRl, cmpS, toLS, toL_le, toL_lt, i2lS, inM, Int64.reduceLE, Int64.reduceLT, xa_1, xa_2, xa_xa, upd_at, updU, linS, nI_add, nI_s2, clN, inN, inLS, Nat.reduceEqDiff, ↓reduceIte, not_true_eq_false, not_false_eq_true, and_true, true_and, and_false, false_and, and_self, or_true, true_or, or_false, false_or, ↓reduceIte, if_true, if_false, eq_self, hmb, hb, hij, hin, z]
      exact hq _ (REL_thr hR 0)
  · have hmb := m_isB hR a
    refine tri_wp (T := TT [(59, S59), (92, S92)]) (ls := [.ref 0, .int a]) (TTc t59 (TTc t92 TTn)) c91 (by decide +kernel) (rt0 := some .long) rfl rfl (Nat.le_of_ble_eq_true rfl) rfl ?_
    simp only [i91, wp_iinc, wpE0, wpE1, wpE2, wpE3, wpE4, wpE5, wpJ, okS, lt4S, popR, litS, Int32.reduceLT, Int32.reduceLE, List.getElem?_cons_zero, List.getElem?_cons_succ, Bool.false_eq_true, ↓reduceIte, Nat.reduceMod, Nat.reduceDiv, Nat.reduceAdd, Nat.reduceSub, Nat.reduceMul, Nat.reduceLeDiff, Nat.reduceEqDiff, Nat.reduceBEq, Int.reduceToNat, Int.reduceAdd, Int32.reduceOfInt, Int64.reduceOfInt, Int32.reduceToNatClampNeg, Int32.reduceOfNat, Bool.or_self, Bool.or_false, Bool.false_or, Bool.true_or, Bool.or_true, true_and, and_true, false_and, and_false, List.set_cons_zero, List.set_cons_succ, List.take_succ_cons, List.take_zero, List.drop_succ_cons, List.drop_zero, List.reverse_cons, List.reverse_nil, List.nil_append, List.cons_append, List.length_cons, List.length_nil, Option.toList_some, Option.toList_none, not_true_eq_false, not_false_eq_true, forall_const, true_implies, false_implies, nrw, TTS, s59, s92, s93, i92, i93, shO, sh7L, and01, bI_0, bI_and, isCl, isRl, cmpS, toLS, toL_le, toL_lt, i2lS, inM, Int64.reduceLE, Int64.reduceLT, xa_1, xa_2, xa_xa, upd_at, updU, Nat.reduceEqDiff, ↓reduceIte, not_true_eq_false, not_false_eq_true, and_true, true_and, and_false, false_and, and_self, or_true, true_or, or_false, false_or, ↓reduceIte, if_true, if_false, eq_self, hb]
    refine h _ _ (fun Q' hq => ?_)
    refine tri_wp (T := TT [(177, S177), (186, S186)]) (ls := [.ref 86, .int a, .null]) (TTc t177 (TTc t186 TTn)) c202 (by decide +kernel) (rt0 := some .long) rfl rfl (Nat.le_of_ble_eq_true rfl) rfl ?_
    simp only [i202, wp_iinc, wpE0, wpE1, wpE2, wpE3, wpE4, wpE5, wpJ, okS, lt4S, popR, litS, Int32.reduceLT, Int32.reduceLE, List.getElem?_cons_zero, List.getElem?_cons_succ, Bool.false_eq_true, ↓reduceIte, Nat.reduceMod, Nat.reduceDiv, Nat.reduceAdd, Nat.reduceSub, Nat.reduceMul, Nat.reduceLeDiff, Nat.reduceEqDiff, Nat.reduceBEq, Int.reduceToNat, Int.reduceAdd, Int32.reduceOfInt, Int64.reduceOfInt, Int32.reduceToNatClampNeg, Int32.reduceOfNat, Bool.or_self, Bool.or_false, Bool.false_or, Bool.true_or, Bool.or_true, true_and, and_true, false_and, and_false, List.set_cons_zero, List.set_cons_succ, List.take_succ_cons, List.take_zero, List.drop_succ_cons, List.drop_zero, List.reverse_cons, List.reverse_nil, List.nil_append, List.cons_append, List.length_cons, List.length_nil, Option.toList_some, Option.toList_none, not_true_eq_false, not_false_eq_true, forall_const, true_implies, false_implies, nrw, TTS, s177, s186, i186, shM, shO, and01, bI_0, bI_and, isRl, cmpS, toLS, toL_le, toL_lt, i2lS, inM, Int64.reduceLE, Int64.reduceLT, xa_1, xa_2, xa_xa, upd_at, updU, linS, nI_add, nI_s2, clN, inN, inLS, Nat.reduceEqDiff, ↓reduceIte, not_true_eq_false, not_false_eq_true, and_true, true_and, and_false, false_and, and_self, or_true, true_or, or_false, false_or, ↓reduceIte, if_true, if_false, eq_self, hmb, hb]
    exact hq _ (REL_thr hR 0)

theorem tr_in {m : xM} (hR : REL m) (a : Int32) : (0 ≤ a ∧ a ≤ m.1 86 31 - 1) = (¬ a < 0 ∧ ¬ m.1 84 1 ≤ a) := by rw [← hR.trace.1]; exact in_1 hR.trace.2.1

theorem p139 {G : xG} {m : xM} (hR : REL m) (a : Int32) {Q : xQt} (h : ∀ r m1, MID G 234 [.ref 86, .int a] r m1 → Q (some r) m1) : Tri G 139 [.ref 0, .int a] m Q := by
  by_cases hb : ¬ a < 0 ∧ ¬ m.1 84 1 ≤ a
  · obtain ⟨j, hj, rfl, hjb, hij, hin⟩ := in_ix hR.trace.2.1 (by decide) hb
    have hmb := tr_in hR (nI j)
    have et := hR.trace.2.2 j hjb
    refine tri_wp (T := TT []) (ls := [.ref 0, .int (nI j)]) TTn c139 (by decide +kernel) (rt0 := some .int) rfl rfl (Nat.le_of_ble_eq_true rfl) rfl ?_
    simp (disch := omega) only [i139, wp_iinc, wpE0, wpE1, wpE2, wpE3, wpE4, wpE5, wpJ, okS, lt4S, popR, litS, Int32.reduceLT, Int32.reduceLE, List.getElem?_cons_zero, List.getElem?_cons_succ, Bool.false_eq_true, ↓reduceIte, Nat.reduceMod, Nat.reduceDiv, Nat.reduceAdd, Nat.reduceSub, Nat.reduceMul, Nat.reduceLeDiff, Nat.reduceEqDiff, Nat.reduceBEq, Int.reduceToNat, Int.reduceAdd, Int32.reduceOfInt, Int64.reduceOfInt, Int32.reduceToNatClampNeg, Int32.reduceOfNat, Bool.or_self, Bool.or_false, Bool.false_or, Bool.true_or, Bool.or_true, true_and, and_true, false_and, and_false, List.set_cons_zero, List.set_cons_succ, List.take_succ_cons, List.take_zero, List.drop_succ_cons, List.drop_zero, List.reverse_cons, List.reverse_nil, List.nil_append, List.cons_append, List.length_cons, List.length_nil, Option.toList_some, Option.toList_none, not_true_eq_false, not_false_eq_true, forall_const, true_implies, false_implies, nrw, TTS, shO, sh7L, and01, bI_0, bI_and, isCl, isRl, cmpS, toLS, toL_le, toL_lt, i2lS, inM, Int64.reduceLE, Int64.reduceLT, xa_1, xa_2, xa_xa, upd_at, updU, Nat.reduceEqDiff, ↓reduceIte, not_true_eq_false, not_false_eq_true, and_true, true_and, and_false, false_and, and_self, or_true, true_or, or_false, false_or, ↓reduceIte, if_true, if_false, eq_self, hb, hij, hin]
    refine ⟨fun _ => ?_, fun z => absurd (Int32.not_le.mp hb.2) z⟩
    refine h _ _ (fun Q' hq => ?_)
    refine tri_wp (T := TT [(148, S148)]) (ls := [.ref 86, .int (nI j)]) (TTc t148 TTn) c234 (by decide +kernel) (rt0 := some .int) rfl rfl (Nat.le_of_ble_eq_true rfl) rfl ?_
    simp (disch := omega) only [i234, wp_iinc, wpE0, wpE1, wpE2, wpE3, wpE4, wpE5, wpJ, okS, lt4S, popR, litS, Int32.reduceLT, Int32.reduceLE, List.getElem?_cons_zero, List.getElem?_cons_succ, Bool.false_eq_true, ↓reduceIte, Nat.reduceMod, Nat.reduceDiv, Nat.reduceAdd, Nat.reduceSub, Nat.reduceMul, Nat.reduceLeDiff, Nat.reduceEqDiff, Nat.reduceBEq, Int.reduceToNat, Int.reduceAdd, Int32.reduceOfInt, Int64.reduceOfInt, Int32.reduceToNatClampNeg, Int32.reduceOfNat, Bool.or_self, Bool.or_false, Bool.false_or, Bool.true_or, Bool.or_true, true_and, and_true, false_and, and_false, List.set_cons_zero, List.set_cons_succ, List.take_succ_cons, List.take_zero, List.drop_succ_cons, List.drop_zero, List.reverse_cons, List.reverse_nil, List.nil_append, List.cons_append, List.length_cons, List.length_nil, Option.toList_some, Option.toList_none, not_true_eq_false, not_false_eq_true, forall_const, true_implies, false_implies, nrw, TTS, s148, shM, shO, and01, bI_0, bI_and, isRl, cmpS, toLS, toL_le, toL_lt, i2lS, inM, Int64.reduceLE, Int64.reduceLT, xa_1, xa_2, xa_xa, upd_at, updU, linS, nI_add, nI_s2, clN, inN, inLS, Nat.reduceEqDiff, ↓reduceIte, not_true_eq_false, not_false_eq_true, and_true, true_and, and_false, false_and, and_self, or_true, true_or, or_false, false_or, ↓reduceIte, if_true, if_false, eq_self, hmb, hb, hij, hin]
    rw [et] at hq
    exact hq _ (REL_thr hR 0)
  · have hmb := tr_in hR a
    refine tri_wp (T := TT []) (ls := [.ref 0, .int a]) TTn c139 (by decide +kernel) (rt0 := some .int) rfl rfl (Nat.le_of_ble_eq_true rfl) rfl ?_
    simp (disch := omega) only [i139, wp_iinc, wpE0, wpE1, wpE2, wpE3, wpE4, wpE5, wpJ, okS, lt4S, popR, litS, Int32.reduceLT, Int32.reduceLE, List.getElem?_cons_zero, List.getElem?_cons_succ, Bool.false_eq_true, ↓reduceIte, Nat.reduceMod, Nat.reduceDiv, Nat.reduceAdd, Nat.reduceSub, Nat.reduceMul, Nat.reduceLeDiff, Nat.reduceEqDiff, Nat.reduceBEq, Int.reduceToNat, Int.reduceAdd, Int32.reduceOfInt, Int64.reduceOfInt, Int32.reduceToNatClampNeg, Int32.reduceOfNat, Bool.or_self, Bool.or_false, Bool.false_or, Bool.true_or, Bool.or_true, true_and, and_true, false_and, and_false, List.set_cons_zero, List.set_cons_succ, List.take_succ_cons, List.take_zero, List.drop_succ_cons, List.drop_zero, List.reverse_cons, List.reverse_nil, List.nil_append, List.cons_append, List.length_cons, List.length_nil, Option.toList_some, Option.toList_none, not_true_eq_false, not_false_eq_true, forall_const, true_implies, false_implies, nrw, TTS, shO, sh7L, and01, bI_0, bI_and, isCl, isRl, cmpS, toLS, toL_le, toL_lt, i2lS, inM, Int64.reduceLE, Int64.reduceLT, xa_1, xa_2, xa_xa, upd_at, updU, Nat.reduceEqDiff, ↓reduceIte, not_true_eq_false, not_false_eq_true, and_true, true_and, and_false, false_and, and_self, or_true, true_or, or_false, false_or, ↓reduceIte, if_true, if_false, eq_self]
    refine ⟨fun z => ?_, fun z => ⟨fun z2 => absurd ⟨z, Int32.not_le.mpr z2⟩ hb, fun z2 => ?_⟩⟩
    · refine h _ _ (fun Q' hq => ?_)
      refine tri_wp (T := TT [(148, S148)]) (ls := [.ref 86, .int a]) (TTc t148 TTn) c234 (by decide +kernel) (rt0 := some .int) rfl rfl (Nat.le_of_ble_eq_true rfl) rfl ?_
      simp (disch := omega) only [i234, wp_iinc, wpE0, wpE1, wpE2, wpE3, wpE4, wpE5, wpJ, okS, lt4S, popR, litS, Int32.reduceLT, Int32.reduceLE, List.getElem?_cons_zero, List.getElem?_cons_succ, Bool.false_eq_true, ↓reduceIte, Nat.reduceMod, Nat.reduceDiv, Nat.reduceAdd, Nat.reduceSub, Nat.reduceMul, Nat.reduceLeDiff, Nat.reduceEqDiff, Nat.reduceBEq, Int.reduceToNat, Int.reduceAdd, Int32.reduceOfInt, Int64.reduceOfInt, Int32.reduceToNatClampNeg, Int32.reduceOfNat, Bool.or_self, Bool.or_false, Bool.false_or, Bool.true_or, Bool.or_true, true_and, and_true, false_and, and_false, List.set_cons_zero, List.set_cons_succ, List.take_succ_cons, List.take_zero, List.drop_succ_cons, List.drop_zero, List.reverse_cons, List.reverse_nil, List.nil_append, List.cons_append, List.length_cons, List.length_nil, Option.toList_some, Option.toList_none, not_true_eq_false, not_false_eq_true, forall_const, true_implies, false_implies, nrw, TTS, s148, shM, shO, and01, bI_0, bI_and, isRl, cmpS, toLS, toL_le, toL_lt, i2lS, inM, Int64.reduceLE, Int64.reduceLT, xa_1, xa_2, xa_xa, upd_at, updU, linS, nI_add, nI_s2, clN, inN, inLS, Nat.reduceEqDiff, ↓reduceIte, not_true_eq_false, not_false_eq_true, and_true, true_and, and_false, false_and, and_self, or_true, true_or, or_false, false_or, ↓reduceIte, if_true, if_false, eq_self, hmb, hb]
      exact hq _ (REL_thr hR 0)
    · refine h _ _ (fun Q' hq => ?_)
      refine tri_wp (T := TT [(148, S148)]) (ls := [.ref 86, .int a]) (TTc t148 TTn) c234 (by decide +kernel) (rt0 := some .int) rfl rfl (Nat.le_of_ble_eq_true rfl) rfl ?_
      simp (disch := omega) only [i234, wp_iinc, wpE0, wpE1, wpE2, wpE3, wpE4, wpE5, wpJ, okS, lt4S, popR, litS, Int32.reduceLT, Int32.reduceLE, List.getElem?_cons_zero, List.getElem?_cons_succ, Bool.false_eq_true, ↓reduceIte, Nat.reduceMod, Nat.reduceDiv, Nat.reduceAdd, Nat.reduceSub, Nat.reduceMul, Nat.reduceLeDiff, Nat.reduceEqDiff, Nat.reduceBEq, Int.reduceToNat, Int.reduceAdd, Int32.reduceOfInt, Int64.reduceOfInt, Int32.reduceToNatClampNeg, Int32.reduceOfNat, Bool.or_self, Bool.or_false, Bool.false_or, Bool.true_or, Bool.or_true, true_and, and_true, false_and, and_false, List.set_cons_zero, List.set_cons_succ, List.take_succ_cons, List.take_zero, List.drop_succ_cons, List.drop_zero, List.reverse_cons, List.reverse_nil, List.nil_append, List.cons_append, List.length_cons, List.length_nil, Option.toList_some, Option.toList_none, not_true_eq_false, not_false_eq_true, forall_const, true_implies, false_implies, nrw, TTS, s148, shM, shO, and01, bI_0, bI_and, isRl, cmpS, toLS, toL_le, toL_lt, i2lS, inM, Int64.reduceLE, Int64.reduceLT, xa_1, xa_2, xa_xa, upd_at, updU, linS, nI_add, nI_s2, clN, inN, inLS, Nat.reduceEqDiff, ↓reduceIte, not_true_eq_false, not_false_eq_true, and_true, true_and, and_false, false_and, and_self, or_true, true_or, or_false, false_or, ↓reduceIte, if_true, if_false, eq_self, hmb, hb]
      exact hq _ (REL_thr hR 0)
theorem p83 {G : xG} {m : xM} (hR : REL m) (a : Int32) (a2 : Int32) {Q : xQt} (h : ∀ r m1, MID G 198 [.ref 86, .int a, .int a2] r m1 → Q (some r) m1) : Tri G 83 [.ref 0, .int a, .int a2] m Q := by
  by_cases hb : ¬ a < 0 ∧ ¬ m.1 7 5 ≤ a
  · obtain ⟨j, hj, rfl, hjb, hij, hin⟩ := isH_of hR hb
    have hmb := m_isH hR (nI j)
    obtain ⟨e1, e2, e3, e4, e5⟩ := R_h hR hjb
    obtain ⟨v1, v2, v3, v4, v5⟩ := V_h hR hjb
    refine tri_wp (T := TT [(55, S55)]) (ls := [.ref 0, .int (nI j), .int a2]) (TTc t55 TTn) c83 (by decide +kernel) (rt0 := some .long) rfl rfl (Nat.le_of_ble_eq_true rfl) rfl ?_
    simp (disch := omega) only [i83, wp_iinc, wpE0, wpE1, wpE2, wpE3, wpE4, wpE5, wpJ, okS, lt4S, popR, litS, Int32.reduceLT, Int32.reduceLE, List.getElem?_cons_zero, List.getElem?_cons_succ, Bool.false_eq_true, ↓reduceIte, Nat.reduceMod, Nat.reduceDiv, Nat.reduceAdd, Nat.reduceSub, Nat.reduceMul, Nat.reduceLeDiff, Nat.reduceEqDiff, Nat.reduceBEq, Int.reduceToNat, Int.reduceAdd, Int32.reduceOfInt, Int64.reduceOfInt, Int32.reduceToNatClampNeg, Int32.reduceOfNat, Bool.or_self, Bool.or_false, Bool.false_or, Bool.true_or, Bool.or_true, true_and, and_true, false_and, and_false, List.set_cons_zero, List.set_cons_succ, List.take_succ_cons, List.take_zero, List.drop_succ_cons, List.drop_zero, List.reverse_cons, List.reverse_nil, List.nil_append, List.cons_append, List.length_cons, List.length_nil, Option.toList_some, Option.toList_none, not_true_eq_false, not_false_eq_true, forall_const, true_implies, false_implies, nrw, TTS, s55, shO, sh7L, and01, bI_0, bI_and, isCl, isRl, cmpS, toLS, toL_le, toL_lt, i2lS, inM, Int64.reduceLE, Int64.reduceLT, xa_1, xa_2, xa_xa, upd_at, updU, Nat.reduceEqDiff, ↓reduceIte, not_true_eq_false, not_false_eq_true, and_true, true_and, and_false, false_and, and_self, or_true, true_or, or_false, false_or, ↓reduceIte, if_true, if_false, eq_self, hb, hij, hin]
    refine ⟨fun z0 => ?_, fun z0 => ⟨fun z1 => ?_, fun z1 => ⟨fun z2 => ?_, fun z2 => ⟨fun z3 => ?_, fun z3 => ?_⟩⟩⟩⟩
    · subst z0
      refine h _ _ (fun Q' hq => ?_)
      refine tri_wp (T := TT [(172, S172), (148, S148), (174, S174)]) (ls := [.ref 86, .int (nI j), .int 0]) (TTc t172 (TTc t148 (TTc t174 TTn))) c198 (by decide +kernel) (rt0 := some .long) rfl rfl (Nat.le_of_ble_eq_true rfl) rfl ?_
      simp (disch := omega) only [i198, wp_iinc, wpE0, wpE1, wpE2, wpE3, wpE4, wpE5, wpJ, okS, lt4S, popR, litS, Int32.reduceLT, Int32.reduceLE, List.getElem?_cons_zero, List.getElem?_cons_succ, Bool.false_eq_true, ↓reduceIte, Nat.reduceMod, Nat.reduceDiv, Nat.reduceAdd, Nat.reduceSub, Nat.reduceMul, Nat.reduceLeDiff, Nat.reduceEqDiff, Nat.reduceBEq, Int.reduceToNat, Int.reduceAdd, Int32.reduceOfInt, Int64.reduceOfInt, Int32.reduceToNatClampNeg, Int32.reduceOfNat, Bool.or_self, Bool.or_false, Bool.false_or, Bool.true_or, Bool.or_true, true_and, and_true, false_and, and_false, List.set_cons_zero, List.set_cons_succ, List.take_succ_cons, List.take_zero, List.drop_succ_cons, List.drop_zero, List.reverse_cons, List.reverse_nil, List.nil_append, List.cons_append, List.length_cons, List.length_nil, Option.toList_some, Option.toList_none, not_true_eq_false, not_false_eq_true, forall_const, true_implies, false_implies, nrw, TTS, s172, s148, s174, i174, shM, shO, and01, bI_0, bI_and, isRl, cmpS, toLS, toL_le, toL_lt, i2lS, inM, Int64.reduceLE, Int64.reduceLT, xa_1, xa_2, xa_xa, upd_at, updU, linS, nI_add, nI_s2, clN, inN, inLS, Nat.reduceEqDiff, ↓reduceIte, not_true_eq_false, not_false_eq_true, and_true, true_and, and_false, false_and, and_self, or_true, true_or, or_false, false_or, ↓reduceIte, if_true, if_false, eq_self, hmb, hb, hij, hin]
      rw [← e3]
      exact hq _ (REL_thr hR 0)
    · subst z1
      refine h _ _ (fun Q' hq => ?_)
      refine tri_wp (T := TT [(172, S172), (148, S148), (174, S174)]) (ls := [.ref 86, .int (nI j), .int 1]) (TTc t172 (TTc t148 (TTc t174 TTn))) c198 (by decide +kernel) (rt0 := some .long) rfl rfl (Nat.le_of_ble_eq_true rfl) rfl ?_
      simp (disch := omega) only [i198, wp_iinc, wpE0, wpE1, wpE2, wpE3, wpE4, wpE5, wpJ, okS, lt4S, popR, litS, Int32.reduceLT, Int32.reduceLE, List.getElem?_cons_zero, List.getElem?_cons_succ, Bool.false_eq_true, ↓reduceIte, Nat.reduceMod, Nat.reduceDiv, Nat.reduceAdd, Nat.reduceSub, Nat.reduceMul, Nat.reduceLeDiff, Nat.reduceEqDiff, Nat.reduceBEq, Int.reduceToNat, Int.reduceAdd, Int32.reduceOfInt, Int64.reduceOfInt, Int32.reduceToNatClampNeg, Int32.reduceOfNat, Bool.or_self, Bool.or_false, Bool.false_or, Bool.true_or, Bool.or_true, true_and, and_true, false_and, and_false, List.set_cons_zero, List.set_cons_succ, List.take_succ_cons, List.take_zero, List.drop_succ_cons, List.drop_zero, List.reverse_cons, List.reverse_nil, List.nil_append, List.cons_append, List.length_cons, List.length_nil, Option.toList_some, Option.toList_none, not_true_eq_false, not_false_eq_true, forall_const, true_implies, false_implies, nrw, TTS, s172, s148, s174, i174, shM, shO, and01, bI_0, bI_and, isRl, cmpS, toLS, toL_le, toL_lt, i2lS, inM, Int64.reduceLE, Int64.reduceLT, xa_1, xa_2, xa_xa, upd_at, updU, linS, nI_add, nI_s2, clN, inN, inLS, Nat.reduceEqDiff, ↓reduceIte, not_true_eq_false, not_false_eq_true, and_true, true_and, and_false, false_and, and_self, or_true, true_or, or_false, false_or, ↓reduceIte, if_true, if_false, eq_self, hmb, hb, hij, hin]
      rw [← e4]
      exact hq _ (REL_thr hR 0)
    · subst z2
      refine h _ _ (fun Q' hq => ?_)
      refine tri_wp (T := TT [(172, S172), (148, S148), (174, S174)]) (ls := [.ref 86, .int (nI j), .int 2]) (TTc t172 (TTc t148 (TTc t174 TTn))) c198 (by decide +kernel) (rt0 := some .long) rfl rfl (Nat.le_of_ble_eq_true rfl) rfl ?_
      simp (disch := omega) only [i198, wp_iinc, wpE0, wpE1, wpE2, wpE3, wpE4, wpE5, wpJ, okS, lt4S, popR, litS, Int32.reduceLT, Int32.reduceLE, List.getElem?_cons_zero, List.getElem?_cons_succ, Bool.false_eq_true, ↓reduceIte, Nat.reduceMod, Nat.reduceDiv, Nat.reduceAdd, Nat.reduceSub, Nat.reduceMul, Nat.reduceLeDiff, Nat.reduceEqDiff, Nat.reduceBEq, Int.reduceToNat, Int.reduceAdd, Int32.reduceOfInt, Int64.reduceOfInt, Int32.reduceToNatClampNeg, Int32.reduceOfNat, Bool.or_self, Bool.or_false, Bool.false_or, Bool.true_or, Bool.or_true, true_and, and_true, false_and, and_false, List.set_cons_zero, List.set_cons_succ, List.take_succ_cons, List.take_zero, List.drop_succ_cons, List.drop_zero, List.reverse_cons, List.reverse_nil, List.nil_append, List.cons_append, List.length_cons, List.length_nil, Option.toList_some, Option.toList_none, not_true_eq_false, not_false_eq_true, forall_const, true_implies, false_implies, nrw, TTS, s172, s148, s174, i174, shM, shO, and01, bI_0, bI_and, isRl, cmpS, toLS, toL_le, toL_lt, i2lS, inM, Int64.reduceLE, Int64.reduceLT, xa_1, xa_2, xa_xa, upd_at, updU, linS, nI_add, nI_s2, clN, inN, inLS, Nat.reduceEqDiff, ↓reduceIte, not_true_eq_false, not_false_eq_true, and_true, true_and, and_false, false_and, and_self, or_true, true_or, or_false, false_or, ↓reduceIte, if_true, if_false, eq_self, hmb, hb, hij, hin, e1]
      rw [show 24 + 2 * j + 2 - 2 = 24 + 2 * j by omega, ← e1]
      exact hq _ (REL_thr hR 0)
    · subst z3
      refine h _ _ (fun Q' hq => ?_)
      refine tri_wp (T := TT [(172, S172), (148, S148), (174, S174)]) (ls := [.ref 86, .int (nI j), .int 3]) (TTc t172 (TTc t148 (TTc t174 TTn))) c198 (by decide +kernel) (rt0 := some .long) rfl rfl (Nat.le_of_ble_eq_true rfl) rfl ?_
      simp (disch := omega) only [i198, wp_iinc, wpE0, wpE1, wpE2, wpE3, wpE4, wpE5, wpJ, okS, lt4S, popR, litS, Int32.reduceLT, Int32.reduceLE, List.getElem?_cons_zero, List.getElem?_cons_succ, Bool.false_eq_true, ↓reduceIte, Nat.reduceMod, Nat.reduceDiv, Nat.reduceAdd, Nat.reduceSub, Nat.reduceMul, Nat.reduceLeDiff, Nat.reduceEqDiff, Nat.reduceBEq, Int.reduceToNat, Int.reduceAdd, Int32.reduceOfInt, Int64.reduceOfInt, Int32.reduceToNatClampNeg, Int32.reduceOfNat, Bool.or_self, Bool.or_false, Bool.false_or, Bool.true_or, Bool.or_true, true_and, and_true, false_and, and_false, List.set_cons_zero, List.set_cons_succ, List.take_succ_cons, List.take_zero, List.drop_succ_cons, List.drop_zero, List.reverse_cons, List.reverse_nil, List.nil_append, List.cons_append, List.length_cons, List.length_nil, Option.toList_some, Option.toList_none, not_true_eq_false, not_false_eq_true, forall_const, true_implies, false_implies, nrw, TTS, s172, s148, s174, i174, shM, shO, and01, bI_0, bI_and, isRl, cmpS, toLS, toL_le, toL_lt, i2lS, inM, Int64.reduceLE, Int64.reduceLT, xa_1, xa_2, xa_xa, upd_at, updU, linS, nI_add, nI_s2, clN, inN, inLS, Nat.reduceEqDiff, ↓reduceIte, not_true_eq_false, not_false_eq_true, and_true, true_and, and_false, false_and, and_self, or_true, true_or, or_false, false_or, ↓reduceIte, if_true, if_false, eq_self, hmb, hb, hij, hin, e2]
      rw [show 24 + 2 * j + 3 - 2 = 24 + 2 * j + 1 by omega, ← e2]
      exact hq _ (REL_thr hR 0)
    · have z4 := nin (a := a2) (n := 3) (fun i hi => by match i, hi with | 0, _ => exact z0 | 1, _ => exact z1 | 2, _ => exact z2 | 3, _ => exact z3) (by decide)
      rw [show nI 3 = (3 : Int32) from rfl] at z4
      refine h _ _ (fun Q' hq => ?_)
      refine tri_wp (T := TT [(172, S172), (148, S148), (174, S174)]) (ls := [.ref 86, .int (nI j), .int a2]) (TTc t172 (TTc t148 (TTc t174 TTn))) c198 (by decide +kernel) (rt0 := some .long) rfl rfl (Nat.le_of_ble_eq_true rfl) rfl ?_
      simp (disch := omega) only [i198, wp_iinc, wpE0, wpE1, wpE2, wpE3, wpE4, wpE5, wpJ, okS, lt4S, popR, litS, Int32.reduceLT, Int32.reduceLE, List.getElem?_cons_zero, List.getElem?_cons_succ, Bool.false_eq_true, ↓reduceIte, Nat.reduceMod, Nat.reduceDiv, Nat.reduceAdd, Nat.reduceSub, Nat.reduceMul, Nat.reduceLeDiff, Nat.reduceEqDiff, Nat.reduceBEq, Int.reduceToNat, Int.reduceAdd, Int32.reduceOfInt, Int64.reduceOfInt, Int32.reduceToNatClampNeg, Int32.reduceOfNat, Bool.or_self, Bool.or_false, Bool.false_or, Bool.true_or, Bool.or_true, true_and, and_true, false_and, and_false, List.set_cons_zero, List.set_cons_succ, List.take_succ_cons, List.take_zero, List.drop_succ_cons, List.drop_zero, List.reverse_cons, List.reverse_nil, List.nil_append, List.cons_append, List.length_cons, List.length_nil, Option.toList_some, Option.toList_none, not_true_eq_false, not_false_eq_true, forall_const, true_implies, false_implies, nrw, TTS, s172, s148, s174, i174, shM, shO, and01, bI_0, bI_and, isRl, cmpS, toLS, toL_le, toL_lt, i2lS, inM, Int64.reduceLE, Int64.reduceLT, xa_1, xa_2, xa_xa, upd_at, updU, linS, nI_add, nI_s2, clN, inN, inLS, Nat.reduceEqDiff, ↓reduceIte, not_true_eq_false, not_false_eq_true, and_true, true_and, and_false, false_and, and_self, or_true, true_or, or_false, false_or, ↓reduceIte, if_true, if_false, eq_self, hmb, hb, hij, hin, z4]
      exact hq _ (REL_thr hR 0)
  · have hmb := m_isH hR a
    refine tri_wp (T := TT [(55, S55)]) (ls := [.ref 0, .int a, .int a2]) (TTc t55 TTn) c83 (by decide +kernel) (rt0 := some .long) rfl rfl (Nat.le_of_ble_eq_true rfl) rfl ?_
    simp only [i83, wp_iinc, wpE0, wpE1, wpE2, wpE3, wpE4, wpE5, wpJ, okS, lt4S, popR, litS, Int32.reduceLT, Int32.reduceLE, List.getElem?_cons_zero, List.getElem?_cons_succ, Bool.false_eq_true, ↓reduceIte, Nat.reduceMod, Nat.reduceDiv, Nat.reduceAdd, Nat.reduceSub, Nat.reduceMul, Nat.reduceLeDiff, Nat.reduceEqDiff, Nat.reduceBEq, Int.reduceToNat, Int.reduceAdd, Int32.reduceOfInt, Int64.reduceOfInt, Int32.reduceToNatClampNeg, Int32.reduceOfNat, Bool.or_self, Bool.or_false, Bool.false_or, Bool.true_or, Bool.or_true, true_and, and_true, false_and, and_false, List.set_cons_zero, List.set_cons_succ, List.take_succ_cons, List.take_zero, List.drop_succ_cons, List.drop_zero, List.reverse_cons, List.reverse_nil, List.nil_append, List.cons_append, List.length_cons, List.length_nil, Option.toList_some, Option.toList_none, not_true_eq_false, not_false_eq_true, forall_const, true_implies, false_implies, nrw, TTS, s55, shO, sh7L, and01, bI_0, bI_and, isCl, isRl, cmpS, toLS, toL_le, toL_lt, i2lS, inM, Int64.reduceLE, Int64.reduceLT, xa_1, xa_2, xa_xa, upd_at, updU, Nat.reduceEqDiff, ↓reduceIte, not_true_eq_false, not_false_eq_true, and_true, true_and, and_false, false_and, and_self, or_true, true_or, or_false, false_or, ↓reduceIte, if_true, if_false, eq_self, hb]
    refine h _ _ (fun Q' hq => ?_)
    refine tri_wp (T := TT [(172, S172), (148, S148), (174, S174)]) (ls := [.ref 86, .int a, .int a2]) (TTc t172 (TTc t148 (TTc t174 TTn))) c198 (by decide +kernel) (rt0 := some .long) rfl rfl (Nat.le_of_ble_eq_true rfl) rfl ?_
    simp only [i198, wp_iinc, wpE0, wpE1, wpE2, wpE3, wpE4, wpE5, wpJ, okS, lt4S, popR, litS, Int32.reduceLT, Int32.reduceLE, List.getElem?_cons_zero, List.getElem?_cons_succ, Bool.false_eq_true, ↓reduceIte, Nat.reduceMod, Nat.reduceDiv, Nat.reduceAdd, Nat.reduceSub, Nat.reduceMul, Nat.reduceLeDiff, Nat.reduceEqDiff, Nat.reduceBEq, Int.reduceToNat, Int.reduceAdd, Int32.reduceOfInt, Int64.reduceOfInt, Int32.reduceToNatClampNeg, Int32.reduceOfNat, Bool.or_self, Bool.or_false, Bool.false_or, Bool.true_or, Bool.or_true, true_and, and_true, false_and, and_false, List.set_cons_zero, List.set_cons_succ, List.take_succ_cons, List.take_zero, List.drop_succ_cons, List.drop_zero, List.reverse_cons, List.reverse_nil, List.nil_append, List.cons_append, List.length_cons, List.length_nil, Option.toList_some, Option.toList_none, not_true_eq_false, not_false_eq_true, forall_const, true_implies, false_implies, nrw, TTS, s172, s148, s174, i174, shM, shO, and01, bI_0, bI_and, isRl, cmpS, toLS, toL_le, toL_lt, i2lS, inM, Int64.reduceLE, Int64.reduceLT, xa_1, xa_2, xa_xa, upd_at, updU, linS, nI_add, nI_s2, clN, inN, inLS, Nat.reduceEqDiff, ↓reduceIte, not_true_eq_false, not_false_eq_true, and_true, true_and, and_false, false_and, and_self, or_true, true_or, or_false, false_or, ↓reduceIte, if_true, if_false, eq_self, hmb, hb]
    exact hq _ (REL_thr hR 0)
end
section
theorem lit6 : ((6 : Int32) = 0) = False ∧ ((0 : Int32) = 6) = False ∧ ((7 : Int32) = 0) = False ∧ ((0 : Int32) = 7) = False ∧ ((6 : Int32) = 1) = False ∧ ((1 : Int32) = 6) = False ∧ ((7 : Int32) = 1) = False ∧ ((1 : Int32) = 7) = False ∧ ((6 : Int32) = 2) = False ∧ ((2 : Int32) = 6) = False ∧ ((7 : Int32) = 2) = False ∧ ((2 : Int32) = 7) = False ∧ ((6 : Int32) = 3) = False ∧ ((3 : Int32) = 6) = False ∧ ((7 : Int32) = 3) = False ∧ ((3 : Int32) = 7) = False ∧ ((6 : Int32) = 4) = False ∧ ((4 : Int32) = 6) = False ∧ ((7 : Int32) = 4) = False ∧ ((4 : Int32) = 7) = False ∧ ((6 : Int32) = 5) = False ∧ ((5 : Int32) = 6) = False ∧ ((7 : Int32) = 5) = False ∧ ((5 : Int32) = 7) = False := by simp
theorem p82 {G : xG} {m : xM} (hR : REL m) (a : Int32) (a2 : Int32) {Q : xQt} (h : ∀ r m1, MID G 197 [.ref 86, .int a, .int a2] r m1 → Q (some r) m1) : Tri G 82 [.ref 0, .int a, .int a2] m Q := by
  by_cases hb : ¬ a < 0 ∧ ¬ m.1 7 4 ≤ a
  · obtain ⟨j, hj, rfl, hjb, hij, hin⟩ := isB_of hR hb
    have hmb := m_isB hR (nI j)
    have hEK : EK (kk m 7) (m.1 90) := hR.club.1
    have hE6 : E6 (ix (m.1 90 4)) (g6 m 7) (m.1 92) := hR.club.2.1
    have hn90 := n12' hR
    have hn7 := n12 hR
    have hbb := bb' hR hjb
    obtain ⟨e1, e2, e3, e4, e5, e6, e7, e8⟩ := R_b hR hjb
    obtain ⟨v1, v2, v3, v4, v5, v6, v7⟩ := V_b hR hjb
    refine tri_wp (T := TT [(59, S59), (67, S67), (70, S70), (78, S78b)]) (ls := [.ref 0, .int (nI j), .int a2]) (TTc t59 (TTc t67 (TTc t70 (TTc t78b TTn)))) c82 (by decide +kernel) (rt0 := some .long) rfl rfl (Nat.le_of_ble_eq_true rfl) rfl ?_
    simp (disch := omega) only [i82, wp_iinc, wpE0, wpE1, wpE2, wpE3, wpE4, wpE5, wpJ, okS, lt4S, popR, litS, Int32.reduceLT, Int32.reduceLE, List.getElem?_cons_zero, List.getElem?_cons_succ, Bool.false_eq_true, ↓reduceIte, Nat.reduceMod, Nat.reduceDiv, Nat.reduceAdd, Nat.reduceSub, Nat.reduceMul, Nat.reduceLeDiff, Nat.reduceEqDiff, Nat.reduceBEq, Int.reduceToNat, Int.reduceAdd, Int32.reduceOfInt, Int64.reduceOfInt, Int32.reduceToNatClampNeg, Int32.reduceOfNat, Bool.or_self, Bool.or_false, Bool.false_or, Bool.true_or, Bool.or_true, true_and, and_true, false_and, and_false, List.set_cons_zero, List.set_cons_succ, List.take_succ_cons, List.take_zero, List.drop_succ_cons, List.drop_zero, List.reverse_cons, List.reverse_nil, List.nil_append, List.cons_append, List.length_cons, List.length_nil, Option.toList_some, Option.toList_none, not_true_eq_false, not_false_eq_true, forall_const, true_implies, false_implies, nrw, TTS, s59, s67, s70, s78b, shO, sh7L, and01, bI_0, bI_and, isCl, isRl, cmpS, toLS, toL_le, toL_lt, i2lS, inM, Int64.reduceLE, Int64.reduceLT, xa_1, xa_2, xa_xa, upd_at, updU, Nat.reduceEqDiff, ↓reduceIte, not_true_eq_false, not_false_eq_true, and_true, true_and, and_false, false_and, and_self, or_true, true_or, or_false, false_or, ↓reduceIte, if_true, if_false, eq_self, hb, hij, hin, hn7]
    refine ⟨fun z0 => ?_, fun z0 => ⟨fun z1 => ?_, fun z1 => ⟨fun z2 => ?_, fun z2 => ⟨fun z3 => ?_, fun z3 => ⟨fun z4 => ?_, fun z4 => ⟨fun z5 => ?_, fun z5 => ⟨fun z6 => ?_, fun z6 => ?_⟩⟩⟩⟩⟩⟩⟩
    · subst z0
      refine h _ _ (fun Q' hq => ?_)
      refine tri_wp (T := TT [(177, S177), (190, S190b (kk m 7) (g6 m 7)), (193, S193b (kk m 7) (g6 m 7)), (187, S187b (kk m 7) (g6 m 7))]) (ls := [.ref 86, .int (nI j), .int 0]) (TTc t177 (TTc (t190b (kk m 7) (g6 m 7)) (TTc (t193b (kk m 7) (g6 m 7)) (TTc (t187b (kk m 7) (g6 m 7)) TTn)))) c197 (by decide +kernel) (rt0 := some .long) rfl rfl (Nat.le_of_ble_eq_true rfl) rfl ?_
      simp (disch := omega) only [i197, wp_iinc, wpE0, wpE1, wpE2, wpE3, wpE4, wpE5, wpJ, okS, lt4S, popR, litS, Int32.reduceLT, Int32.reduceLE, List.getElem?_cons_zero, List.getElem?_cons_succ, Bool.false_eq_true, ↓reduceIte, Nat.reduceMod, Nat.reduceDiv, Nat.reduceAdd, Nat.reduceSub, Nat.reduceMul, Nat.reduceLeDiff, Nat.reduceEqDiff, Nat.reduceBEq, Int.reduceToNat, Int.reduceAdd, Int32.reduceOfInt, Int64.reduceOfInt, Int32.reduceToNatClampNeg, Int32.reduceOfNat, Bool.or_self, Bool.or_false, Bool.false_or, Bool.true_or, Bool.or_true, true_and, and_true, false_and, and_false, List.set_cons_zero, List.set_cons_succ, List.take_succ_cons, List.take_zero, List.drop_succ_cons, List.drop_zero, List.reverse_cons, List.reverse_nil, List.nil_append, List.cons_append, List.length_cons, List.length_nil, Option.toList_some, Option.toList_none, not_true_eq_false, not_false_eq_true, forall_const, true_implies, false_implies, nrw, TTS, s177, s190b, s193b, s187b, shM, shO, and01, bI_0, bI_and, isRl, cmpS, toLS, toL_le, toL_lt, i2lS, inM, Int64.reduceLE, Int64.reduceLT, xa_1, xa_2, xa_xa, upd_at, updU, linS, nI_add, nI_s2, clN, inN, inLS, Nat.reduceEqDiff, ↓reduceIte, not_true_eq_false, not_false_eq_true, and_true, true_and, and_false, false_and, and_self, or_true, true_or, or_false, false_or, ↓reduceIte, if_true, if_false, eq_self, hmb, hb, hij, hin, lit6, hEK, hE6, hn90, hbb]
      rw [← e1]
      exact hq _ (REL_thr hR 0)
    · subst z1
      refine h _ _ (fun Q' hq => ?_)
      refine tri_wp (T := TT [(177, S177), (190, S190b (kk m 7) (g6 m 7)), (193, S193b (kk m 7) (g6 m 7)), (187, S187b (kk m 7) (g6 m 7))]) (ls := [.ref 86, .int (nI j), .int 1]) (TTc t177 (TTc (t190b (kk m 7) (g6 m 7)) (TTc (t193b (kk m 7) (g6 m 7)) (TTc (t187b (kk m 7) (g6 m 7)) TTn)))) c197 (by decide +kernel) (rt0 := some .long) rfl rfl (Nat.le_of_ble_eq_true rfl) rfl ?_
      simp (disch := omega) only [i197, wp_iinc, wpE0, wpE1, wpE2, wpE3, wpE4, wpE5, wpJ, okS, lt4S, popR, litS, Int32.reduceLT, Int32.reduceLE, List.getElem?_cons_zero, List.getElem?_cons_succ, Bool.false_eq_true, ↓reduceIte, Nat.reduceMod, Nat.reduceDiv, Nat.reduceAdd, Nat.reduceSub, Nat.reduceMul, Nat.reduceLeDiff, Nat.reduceEqDiff, Nat.reduceBEq, Int.reduceToNat, Int.reduceAdd, Int32.reduceOfInt, Int64.reduceOfInt, Int32.reduceToNatClampNeg, Int32.reduceOfNat, Bool.or_self, Bool.or_false, Bool.false_or, Bool.true_or, Bool.or_true, true_and, and_true, false_and, and_false, List.set_cons_zero, List.set_cons_succ, List.take_succ_cons, List.take_zero, List.drop_succ_cons, List.drop_zero, List.reverse_cons, List.reverse_nil, List.nil_append, List.cons_append, List.length_cons, List.length_nil, Option.toList_some, Option.toList_none, not_true_eq_false, not_false_eq_true, forall_const, true_implies, false_implies, nrw, TTS, s177, s190b, s193b, s187b, shM, shO, and01, bI_0, bI_and, isRl, cmpS, toLS, toL_le, toL_lt, i2lS, inM, Int64.reduceLE, Int64.reduceLT, xa_1, xa_2, xa_xa, upd_at, updU, linS, nI_add, nI_s2, clN, inN, inLS, Nat.reduceEqDiff, ↓reduceIte, not_true_eq_false, not_false_eq_true, and_true, true_and, and_false, false_and, and_self, or_true, true_or, or_false, false_or, ↓reduceIte, if_true, if_false, eq_self, hmb, hb, hij, hin, lit6, hEK, hE6, hn90, hbb]
      rw [← e2]
      exact hq _ (REL_thr hR 0)
    · subst z2
      refine h _ _ (fun Q' hq => ?_)
      refine tri_wp (T := TT [(177, S177), (190, S190b (kk m 7) (g6 m 7)), (193, S193b (kk m 7) (g6 m 7)), (187, S187b (kk m 7) (g6 m 7))]) (ls := [.ref 86, .int (nI j), .int 2]) (TTc t177 (TTc (t190b (kk m 7) (g6 m 7)) (TTc (t193b (kk m 7) (g6 m 7)) (TTc (t187b (kk m 7) (g6 m 7)) TTn)))) c197 (by decide +kernel) (rt0 := some .long) rfl rfl (Nat.le_of_ble_eq_true rfl) rfl ?_
      simp (disch := omega) only [i197, wp_iinc, wpE0, wpE1, wpE2, wpE3, wpE4, wpE5, wpJ, okS, lt4S, popR, litS, Int32.reduceLT, Int32.reduceLE, List.getElem?_cons_zero, List.getElem?_cons_succ, Bool.false_eq_true, ↓reduceIte, Nat.reduceMod, Nat.reduceDiv, Nat.reduceAdd, Nat.reduceSub, Nat.reduceMul, Nat.reduceLeDiff, Nat.reduceEqDiff, Nat.reduceBEq, Int.reduceToNat, Int.reduceAdd, Int32.reduceOfInt, Int64.reduceOfInt, Int32.reduceToNatClampNeg, Int32.reduceOfNat, Bool.or_self, Bool.or_false, Bool.false_or, Bool.true_or, Bool.or_true, true_and, and_true, false_and, and_false, List.set_cons_zero, List.set_cons_succ, List.take_succ_cons, List.take_zero, List.drop_succ_cons, List.drop_zero, List.reverse_cons, List.reverse_nil, List.nil_append, List.cons_append, List.length_cons, List.length_nil, Option.toList_some, Option.toList_none, not_true_eq_false, not_false_eq_true, forall_const, true_implies, false_implies, nrw, TTS, s177, s190b, s193b, s187b, shM, shO, and01, bI_0, bI_and, isRl, cmpS, toLS, toL_le, toL_lt, i2lS, inM, Int64.reduceLE, Int64.reduceLT, xa_1, xa_2, xa_xa, upd_at, updU, linS, nI_add, nI_s2, clN, inN, inLS, Nat.reduceEqDiff, ↓reduceIte, not_true_eq_false, not_false_eq_true, and_true, true_and, and_false, false_and, and_self, or_true, true_or, or_false, false_or, ↓reduceIte, if_true, if_false, eq_self, hmb, hb, hij, hin, lit6, hEK, hE6, hn90, hbb]
      rw [← e3]
      exact hq _ (REL_thr hR 0)
    · subst z3
      refine h _ _ (fun Q' hq => ?_)
      refine tri_wp (T := TT [(177, S177), (190, S190b (kk m 7) (g6 m 7)), (193, S193b (kk m 7) (g6 m 7)), (187, S187b (kk m 7) (g6 m 7))]) (ls := [.ref 86, .int (nI j), .int 3]) (TTc t177 (TTc (t190b (kk m 7) (g6 m 7)) (TTc (t193b (kk m 7) (g6 m 7)) (TTc (t187b (kk m 7) (g6 m 7)) TTn)))) c197 (by decide +kernel) (rt0 := some .long) rfl rfl (Nat.le_of_ble_eq_true rfl) rfl ?_
      simp (disch := omega) only [i197, wp_iinc, wpE0, wpE1, wpE2, wpE3, wpE4, wpE5, wpJ, okS, lt4S, popR, litS, Int32.reduceLT, Int32.reduceLE, List.getElem?_cons_zero, List.getElem?_cons_succ, Bool.false_eq_true, ↓reduceIte, Nat.reduceMod, Nat.reduceDiv, Nat.reduceAdd, Nat.reduceSub, Nat.reduceMul, Nat.reduceLeDiff, Nat.reduceEqDiff, Nat.reduceBEq, Int.reduceToNat, Int.reduceAdd, Int32.reduceOfInt, Int64.reduceOfInt, Int32.reduceToNatClampNeg, Int32.reduceOfNat, Bool.or_self, Bool.or_false, Bool.false_or, Bool.true_or, Bool.or_true, true_and, and_true, false_and, and_false, List.set_cons_zero, List.set_cons_succ, List.take_succ_cons, List.take_zero, List.drop_succ_cons, List.drop_zero, List.reverse_cons, List.reverse_nil, List.nil_append, List.cons_append, List.length_cons, List.length_nil, Option.toList_some, Option.toList_none, not_true_eq_false, not_false_eq_true, forall_const, true_implies, false_implies, nrw, TTS, s177, s190b, s193b, s187b, shM, shO, and01, bI_0, bI_and, isRl, cmpS, toLS, toL_le, toL_lt, i2lS, inM, Int64.reduceLE, Int64.reduceLT, xa_1, xa_2, xa_xa, upd_at, updU, linS, nI_add, nI_s2, clN, inN, inLS, Nat.reduceEqDiff, ↓reduceIte, not_true_eq_false, not_false_eq_true, and_true, true_and, and_false, false_and, and_self, or_true, true_or, or_false, false_or, ↓reduceIte, if_true, if_false, eq_self, hmb, hb, hij, hin, lit6, hEK, hE6, hn90, hbb]
      exact hq _ (REL_thr hR 0)
    · subst z4
      refine h _ _ (fun Q' hq => ?_)
      refine tri_wp (T := TT [(177, S177), (190, S190b (kk m 7) (g6 m 7)), (193, S193b (kk m 7) (g6 m 7)), (187, S187b (kk m 7) (g6 m 7))]) (ls := [.ref 86, .int (nI j), .int 4]) (TTc t177 (TTc (t190b (kk m 7) (g6 m 7)) (TTc (t193b (kk m 7) (g6 m 7)) (TTc (t187b (kk m 7) (g6 m 7)) TTn)))) c197 (by decide +kernel) (rt0 := some .long) rfl rfl (Nat.le_of_ble_eq_true rfl) rfl ?_
      simp (disch := omega) only [i197, wp_iinc, wpE0, wpE1, wpE2, wpE3, wpE4, wpE5, wpJ, okS, lt4S, popR, litS, Int32.reduceLT, Int32.reduceLE, List.getElem?_cons_zero, List.getElem?_cons_succ, Bool.false_eq_true, ↓reduceIte, Nat.reduceMod, Nat.reduceDiv, Nat.reduceAdd, Nat.reduceSub, Nat.reduceMul, Nat.reduceLeDiff, Nat.reduceEqDiff, Nat.reduceBEq, Int.reduceToNat, Int.reduceAdd, Int32.reduceOfInt, Int64.reduceOfInt, Int32.reduceToNatClampNeg, Int32.reduceOfNat, Bool.or_self, Bool.or_false, Bool.false_or, Bool.true_or, Bool.or_true, true_and, and_true, false_and, and_false, List.set_cons_zero, List.set_cons_succ, List.take_succ_cons, List.take_zero, List.drop_succ_cons, List.drop_zero, List.reverse_cons, List.reverse_nil, List.nil_append, List.cons_append, List.length_cons, List.length_nil, Option.toList_some, Option.toList_none, not_true_eq_false, not_false_eq_true, forall_const, true_implies, false_implies, nrw, TTS, s177, s190b, s193b, s187b, shM, shO, and01, bI_0, bI_and, isRl, cmpS, toLS, toL_le, toL_lt, i2lS, inM, Int64.reduceLE, Int64.reduceLT, xa_1, xa_2, xa_xa, upd_at, updU, linS, nI_add, nI_s2, clN, inN, inLS, Nat.reduceEqDiff, ↓reduceIte, not_true_eq_false, not_false_eq_true, and_true, true_and, and_false, false_and, and_self, or_true, true_or, or_false, false_or, ↓reduceIte, if_true, if_false, eq_self, hmb, hb, hij, hin, lit6, hEK, hE6, hn90, hbb]
      exact hq _ (REL_thr hR 0)
    · subst z5
      refine h _ _ (fun Q' hq => ?_)
      refine tri_wp (T := TT [(177, S177), (190, S190b (kk m 7) (g6 m 7)), (193, S193b (kk m 7) (g6 m 7)), (187, S187b (kk m 7) (g6 m 7))]) (ls := [.ref 86, .int (nI j), .int 5]) (TTc t177 (TTc (t190b (kk m 7) (g6 m 7)) (TTc (t193b (kk m 7) (g6 m 7)) (TTc (t187b (kk m 7) (g6 m 7)) TTn)))) c197 (by decide +kernel) (rt0 := some .long) rfl rfl (Nat.le_of_ble_eq_true rfl) rfl ?_
      simp (disch := omega) only [i197, wp_iinc, wpE0, wpE1, wpE2, wpE3, wpE4, wpE5, wpJ, okS, lt4S, popR, litS, Int32.reduceLT, Int32.reduceLE, List.getElem?_cons_zero, List.getElem?_cons_succ, Bool.false_eq_true, ↓reduceIte, Nat.reduceMod, Nat.reduceDiv, Nat.reduceAdd, Nat.reduceSub, Nat.reduceMul, Nat.reduceLeDiff, Nat.reduceEqDiff, Nat.reduceBEq, Int.reduceToNat, Int.reduceAdd, Int32.reduceOfInt, Int64.reduceOfInt, Int32.reduceToNatClampNeg, Int32.reduceOfNat, Bool.or_self, Bool.or_false, Bool.false_or, Bool.true_or, Bool.or_true, true_and, and_true, false_and, and_false, List.set_cons_zero, List.set_cons_succ, List.take_succ_cons, List.take_zero, List.drop_succ_cons, List.drop_zero, List.reverse_cons, List.reverse_nil, List.nil_append, List.cons_append, List.length_cons, List.length_nil, Option.toList_some, Option.toList_none, not_true_eq_false, not_false_eq_true, forall_const, true_implies, false_implies, nrw, TTS, s177, s190b, s193b, s187b, shM, shO, and01, bI_0, bI_and, isRl, cmpS, toLS, toL_le, toL_lt, i2lS, inM, Int64.reduceLE, Int64.reduceLT, xa_1, xa_2, xa_xa, upd_at, updU, linS, nI_add, nI_s2, clN, inN, inLS, Nat.reduceEqDiff, ↓reduceIte, not_true_eq_false, not_false_eq_true, and_true, true_and, and_false, false_and, and_self, or_true, true_or, or_false, false_or, ↓reduceIte, if_true, if_false, eq_self, hmb, hb, hij, hin, lit6, hEK, hE6, hn90, hbb]
      exact hq _ (REL_thr hR 0)
    · subst z6
      refine h _ _ (fun Q' hq => ?_)
      refine tri_wp (T := TT [(177, S177), (190, S190b (kk m 7) (g6 m 7)), (193, S193b (kk m 7) (g6 m 7)), (187, S187b (kk m 7) (g6 m 7))]) (ls := [.ref 86, .int (nI j), .int 6]) (TTc t177 (TTc (t190b (kk m 7) (g6 m 7)) (TTc (t193b (kk m 7) (g6 m 7)) (TTc (t187b (kk m 7) (g6 m 7)) TTn)))) c197 (by decide +kernel) (rt0 := some .long) rfl rfl (Nat.le_of_ble_eq_true rfl) rfl ?_
      simp (disch := omega) only [i197, wp_iinc, wpE0, wpE1, wpE2, wpE3, wpE4, wpE5, wpJ, okS, lt4S, popR, litS, Int32.reduceLT, Int32.reduceLE, List.getElem?_cons_zero, List.getElem?_cons_succ, Bool.false_eq_true, ↓reduceIte, Nat.reduceMod, Nat.reduceDiv, Nat.reduceAdd, Nat.reduceSub, Nat.reduceMul, Nat.reduceLeDiff, Nat.reduceEqDiff, Nat.reduceBEq, Int.reduceToNat, Int.reduceAdd, Int32.reduceOfInt, Int64.reduceOfInt, Int32.reduceToNatClampNeg, Int32.reduceOfNat, Bool.or_self, Bool.or_false, Bool.false_or, Bool.true_or, Bool.or_true, true_and, and_true, false_and, and_false, List.set_cons_zero, List.set_cons_succ, List.take_succ_cons, List.take_zero, List.drop_succ_cons, List.drop_zero, List.reverse_cons, List.reverse_nil, List.nil_append, List.cons_append, List.length_cons, List.length_nil, Option.toList_some, Option.toList_none, not_true_eq_false, not_false_eq_true, forall_const, true_implies, false_implies, nrw, TTS, s177, s190b, s193b, s187b, shM, shO, and01, bI_0, bI_and, isRl, cmpS, toLS, toL_le, toL_lt, i2lS, inM, Int64.reduceLE, Int64.reduceLT, xa_1, xa_2, xa_xa, upd_at, updU, linS, nI_add, nI_s2, clN, inN, inLS, Nat.reduceEqDiff, ↓reduceIte, not_true_eq_false, not_false_eq_true, and_true, true_and, and_false, false_and, and_self, or_true, true_or, or_false, false_or, ↓reduceIte, if_true, if_false, eq_self, hmb, hb, hij, hin, lit6, hEK, hE6, hn90, hbb]
      rw [← e4]
      exact hq _ (REL_thr hR 0)
    · refine h _ _ (fun Q' hq => ?_)
      refine tri_wp (T := TT [(177, S177), (190, S190b (kk m 7) (g6 m 7)), (193, S193b (kk m 7) (g6 m 7)), (187, S187b (kk m 7) (g6 m 7))]) (ls := [.ref 86, .int (nI j), .int a2]) (TTc t177 (TTc (t190b (kk m 7) (g6 m 7)) (TTc (t193b (kk m 7) (g6 m 7)) (TTc (t187b (kk m 7) (g6 m 7)) TTn)))) c197 (by decide +kernel) (rt0 := some .long) rfl rfl (Nat.le_of_ble_eq_true rfl) rfl ?_
      simp (disch := omega) only [i197, wp_iinc, wpE0, wpE1, wpE2, wpE3, wpE4, wpE5, wpJ, okS, lt4S, popR, litS, Int32.reduceLT, Int32.reduceLE, List.getElem?_cons_zero, List.getElem?_cons_succ, Bool.false_eq_true, ↓reduceIte, Nat.reduceMod, Nat.reduceDiv, Nat.reduceAdd, Nat.reduceSub, Nat.reduceMul, Nat.reduceLeDiff, Nat.reduceEqDiff, Nat.reduceBEq, Int.reduceToNat, Int.reduceAdd, Int32.reduceOfInt, Int64.reduceOfInt, Int32.reduceToNatClampNeg, Int32.reduceOfNat, Bool.or_self, Bool.or_false, Bool.false_or, Bool.true_or, Bool.or_true, true_and, and_true, false_and, and_false, List.set_cons_zero, List.set_cons_succ, List.take_succ_cons, List.take_zero, List.drop_succ_cons, List.drop_zero, List.reverse_cons, List.reverse_nil, List.nil_append, List.cons_append, List.length_cons, List.length_nil, Option.toList_some, Option.toList_none, not_true_eq_false, not_false_eq_true, forall_const, true_implies, false_implies, nrw, TTS, s177, s190b, s193b, s187b, shM, shO, and01, bI_0, bI_and, isRl, cmpS, toLS, toL_le, toL_lt, i2lS, inM, Int64.reduceLE, Int64.reduceLT, xa_1, xa_2, xa_xa, upd_at, updU, linS, nI_add, nI_s2, clN, inN, inLS, Nat.reduceEqDiff, ↓reduceIte, not_true_eq_false, not_false_eq_true, and_true, true_and, and_false, false_and, and_self, or_true, true_or, or_false, false_or, ↓reduceIte, if_true, if_false, eq_self, hmb, hb, hij, hin, lit6, hEK, hE6, hn90, hbb, z0, z1, z2, z3, z4, z5, z6]
      exact hq _ (REL_thr hR 0)
  · have hmb := m_isB hR a
    refine tri_wp (T := TT [(59, S59), (67, S67), (70, S70), (78, S78b)]) (ls := [.ref 0, .int a, .int a2]) (TTc t59 (TTc t67 (TTc t70 (TTc t78b TTn)))) c82 (by decide +kernel) (rt0 := some .long) rfl rfl (Nat.le_of_ble_eq_true rfl) rfl ?_
    simp only [i82, wp_iinc, wpE0, wpE1, wpE2, wpE3, wpE4, wpE5, wpJ, okS, lt4S, popR, litS, Int32.reduceLT, Int32.reduceLE, List.getElem?_cons_zero, List.getElem?_cons_succ, Bool.false_eq_true, ↓reduceIte, Nat.reduceMod, Nat.reduceDiv, Nat.reduceAdd, Nat.reduceSub, Nat.reduceMul, Nat.reduceLeDiff, Nat.reduceEqDiff, Nat.reduceBEq, Int.reduceToNat, Int.reduceAdd, Int32.reduceOfInt, Int64.reduceOfInt, Int32.reduceToNatClampNeg, Int32.reduceOfNat, Bool.or_self, Bool.or_false, Bool.false_or, Bool.true_or, Bool.or_true, true_and, and_true, false_and, and_false, List.set_cons_zero, List.set_cons_succ, List.take_succ_cons, List.take_zero, List.drop_succ_cons, List.drop_zero, List.reverse_cons, List.reverse_nil, List.nil_append, List.cons_append, List.length_cons, List.length_nil, Option.toList_some, Option.toList_none, not_true_eq_false, not_false_eq_true, forall_const, true_implies, false_implies, nrw, TTS, s59, s67, s70, s78b, shO, sh7L, and01, bI_0, bI_and, isCl, isRl, cmpS, toLS, toL_le, toL_lt, i2lS, inM, Int64.reduceLE, Int64.reduceLT, xa_1, xa_2, xa_xa, upd_at, updU, Nat.reduceEqDiff, ↓reduceIte, not_true_eq_false, not_false_eq_true, and_true, true_and, and_false, false_and, and_self, or_true, true_or, or_false, false_or, ↓reduceIte, if_true, if_false, eq_self, hb]
    refine h _ _ (fun Q' hq => ?_)
    refine tri_wp (T := TT [(177, S177), (190, S190b (kk m 7) (g6 m 7)), (193, S193b (kk m 7) (g6 m 7)), (187, S187b (kk m 7) (g6 m 7))]) (ls := [.ref 86, .int a, .int a2]) (TTc t177 (TTc (t190b (kk m 7) (g6 m 7)) (TTc (t193b (kk m 7) (g6 m 7)) (TTc (t187b (kk m 7) (g6 m 7)) TTn)))) c197 (by decide +kernel) (rt0 := some .long) rfl rfl (Nat.le_of_ble_eq_true rfl) rfl ?_
    simp only [i197, wp_iinc, wpE0, wpE1, wpE2, wpE3, wpE4, wpE5, wpJ, okS, lt4S, popR, litS, Int32.reduceLT, Int32.reduceLE, List.getElem?_cons_zero, List.getElem?_cons_succ, Bool.false_eq_true, ↓reduceIte, Nat.reduceMod, Nat.reduceDiv, Nat.reduceAdd, Nat.reduceSub, Nat.reduceMul, Nat.reduceLeDiff, Nat.reduceEqDiff, Nat.reduceBEq, Int.reduceToNat, Int.reduceAdd, Int32.reduceOfInt, Int64.reduceOfInt, Int32.reduceToNatClampNeg, Int32.reduceOfNat, Bool.or_self, Bool.or_false, Bool.false_or, Bool.true_or, Bool.or_true, true_and, and_true, false_and, and_false, List.set_cons_zero, List.set_cons_succ, List.take_succ_cons, List.take_zero, List.drop_succ_cons, List.drop_zero, List.reverse_cons, List.reverse_nil, List.nil_append, List.cons_append, List.length_cons, List.length_nil, Option.toList_some, Option.toList_none, not_true_eq_false, not_false_eq_true, forall_const, true_implies, false_implies, nrw, TTS, s177, s190b, s193b, s187b, shM, shO, and01, bI_0, bI_and, isRl, cmpS, toLS, toL_le, toL_lt, i2lS, inM, Int64.reduceLE, Int64.reduceLT, xa_1, xa_2, xa_xa, upd_at, updU, linS, nI_add, nI_s2, clN, inN, inLS, Nat.reduceEqDiff, ↓reduceIte, not_true_eq_false, not_false_eq_true, and_true, true_and, and_false, false_and, and_self, or_true, true_or, or_false, false_or, ↓reduceIte, if_true, if_false, eq_self, hmb, hb]
    exact hq _ (REL_thr hR 0)
end
section
theorem i_sub {a b : Int32} {l u l' u' : Int} (ha : bt a l u) (hb : bt b l' u') (h1 : -1000000000 ≤ l ∧ u ≤ 1000000000) (h2 : -1000000000 ≤ l' ∧ u' ≤ 1000000000) : (a - b).toInt = a.toInt - b.toInt := by
  have := ha.1; have := ha.2; have := hb.1; have := hb.2
  exact fb_subI (by omega) (by omega)
theorem i_add {a b : Int32} {l u l' u' : Int} (ha : bt a l u) (hb : bt b l' u') (h1 : -1000000000 ≤ l ∧ u ≤ 1000000000) (h2 : -1000000000 ≤ l' ∧ u' ≤ 1000000000) : (a + b).toInt = a.toInt + b.toInt := by
  have := ha.1; have := ha.2; have := hb.1; have := hb.2
  exact fb_addI (by omega) (by omega)
theorem b_sub {a b : Int32} {l u l' u' : Int} (ha : bt a l u) (hb : bt b l' u') (h1 : -1000000000 ≤ l ∧ u ≤ 1000000000) (h2 : -1000000000 ≤ l' ∧ u' ≤ 1000000000) : bt (a - b) (l - u') (u - l') := by
  have := ha.1; have := ha.2; have := hb.1; have := hb.2
  unfold bt
  rw [i_sub ha hb h1 h2]
  omega
theorem b_add {a b : Int32} {l u l' u' : Int} (ha : bt a l u) (hb : bt b l' u') (h1 : -1000000000 ≤ l ∧ u ≤ 1000000000) (h2 : -1000000000 ≤ l' ∧ u' ≤ 1000000000) : bt (a + b) (l + l') (u + u') := by
  have := ha.1; have := ha.2; have := hb.1; have := hb.2
  unfold bt
  rw [i_add ha hb h1 h2]
  omega
theorem b_lit {a : Int32} {l u : Int} (h : l ≤ a.toInt ∧ a.toInt ≤ u) : bt a l u := h
theorem b_w {a : Int32} {l u l' u' : Int} (h : bt a l u) (h1 : l' ≤ l) (h2 : u ≤ u') : bt a l' u' := ⟨by have := h.1; omega, by have := h.2; omega⟩
theorem b_nI {n : Nat} {u : Nat} (h : n ≤ u) (hu : u < 2 ^ 31) : bt (nI n) 0 u := by
  unfold bt
  rw [nI_toInt (by omega)]
  omega
theorem b_of {a : Int32} {u : Nat} {l : Int} (hl : 0 ≤ l) (h : bt a l u) : ∃ n : Nat, l ≤ n ∧ n ≤ u ∧ a = nI n := by
  obtain ⟨h1, h2⟩ := ix_b hl h
  refine ⟨ix a, ?_, h1, h2⟩
  have h3 := h.1
  have h4 : ix a = a.toInt.toNat := rfl
  omega
theorem b_mul6 {a : Int32} (h : bt a 0 9) : bt (6 * a) 0 54 := by
  obtain ⟨n, -, h2, rfl⟩ := b_of (u := 9) (by decide) h
  exact (by decide +kernel : ∀ n : Nat, n < 10 → 0 ≤ (6 * nI n).toInt ∧ (6 * nI n).toInt ≤ 54) n (by omega)
theorem cold_b {k : KK} (hk : VKK k) {h : Nat} (hh : h < ix (kNh k)) : bt (aCold k h) 2 249 := by
  have hv := (hk.2.2.1 h hh).2.2
  obtain ⟨n, h1, h2, e⟩ := b_of (u := 60) (by decide) hv
  unfold aCold
  rw [e]
  have key : ∀ n : Nat, n < 61 → 1 ≤ n → (1 ≤ 6 * nI n) ∧ (2 ≤ (1000 / (6 * nI n)).toInt ∧ (1000 / (6 * nI n)).toInt ≤ 249) ∧ (2 ≤ (1000 / (6 * nI n) + 1000 / (6 * nI n) / 2).toInt ∧ (1000 / (6 * nI n) + 1000 / (6 * nI n) / 2).toInt ≤ 249) := by decide +kernel
  obtain ⟨k1, k2, k3⟩ := key n (by omega) (by omega)
  rw [if_pos k1]
  split
  · exact k2
  · exact k3
theorem vx_ho {k : KK} {X : X6} (h : VXX k X) {b : Nat} {v : Int32} (hv : bt v 0 4) : VXX k (upd X.1 b v, X.2) := by
  refine ⟨fun i hi => ⟨?_, (h.1 i hi).2⟩, h.2⟩
  show bt (upd X.1 b v i) 0 4
  by_cases e : i = b
  · rw [upd_eq e]; exact hv
  · rw [upd_ne e]; exact (h.1 i hi).1
theorem vx_ma {k : KK} {X : X6} (h : VXX k X) {b : Nat} {v : Int32} (hv : bt v 0 100) : VXX k (X.1, upd X.2.1 b v, X.2.2) := by
  refine ⟨fun i hi => ⟨(h.1 i hi).1, ?_, (h.1 i hi).2.2⟩, h.2⟩
  show bt (upd X.2.1 b v i) 0 100
  by_cases e : i = b
  · rw [upd_eq e]; exact hv
  · rw [upd_ne e]; exact (h.1 i hi).2.1
theorem vx_wa {k : KK} {X : X6} (h : VXX k X) {b : Nat} {v : Int32} (hv : bt v 0 70) : VXX k (X.1, X.2.1, upd X.2.2.1 b v, X.2.2.2) := by
  refine ⟨fun i hi => ⟨(h.1 i hi).1, (h.1 i hi).2.1, ?_⟩, h.2⟩
  show bt (upd X.2.2.1 b v i) 0 70
  by_cases e : i = b
  · rw [upd_eq e]; exact hv
  · rw [upd_ne e]; exact (h.1 i hi).2.2
theorem vx_si {k : KK} {X : X6} (h : VXX k X) (g : Nat → Int32) : VXX k (X.1, X.2.1, X.2.2.1, g, X.2.2.2.2) := h
theorem vx_sp {k : KK} {X : X6} (h : VXX k X) {b : Nat} {v : Int32} (hv : bt v 0 3) : VXX k (X.1, X.2.1, X.2.2.1, X.2.2.2.1, upd X.2.2.2.2.1 b v, X.2.2.2.2.2) := by
  refine ⟨h.1, fun i hi => ⟨?_, (h.2 i hi).2⟩⟩
  show bt (upd X.2.2.2.2.1 b v i) 0 3
  by_cases e : i = b
  · rw [upd_eq e]; exact hv
  · rw [upd_ne e]; exact (h.2 i hi).1
theorem vx_send {k : KK} {X : X6} (h : VXX k X) (b f : Int32) {t : Int32} (ht : bt t 0 3) : VXX k (aSend k X b f t) := by
  refine ⟨h.1, fun i hi => ⟨?_, (h.2 i hi).2⟩⟩
  show bt (mapF (xSp X) (fun h => if kBo k h = b ∧ xSp X h = f then t else xSp X h) (ix (kNh k)) i) 0 3
  unfold mapF
  rw [if_pos hi]
  simp only []
  split
  · exact ht
  · exact (h.2 i hi).1
theorem vx_cap {k : KK} {X : X6} (h : VXX k X) (b : Int32) : VXX k (aCap k X b) :=
  vx_send (vx_si (vx_wa (vx_ma (vx_ho h (b_lit (by decide))) (b_lit (by decide))) (b_lit (by decide))) _) _ _ (b_lit (by decide))
theorem vx_up1 {k : KK} {X : X6} (hk : VKK k) (h : VXX k X) {b : Int32} (hb : ix b < ix (kNb k)) : VXX k (aUp1 k X b) := by
  have e := b_sub (a := 70) (b_lit (l := 70) (u := 70) (by decide)) (b_mul6 (hk.2.1 _ hb).2.2.1) (by omega) (by omega)
  exact vx_send (vx_wa (vx_ma (vx_ho h (b_lit (by decide))) (b_lit (by decide))) (b_w e (by omega) (by omega))) _ _ (b_lit (by decide))
theorem vx_up {k : KK} {X : X6} (hk : VKK k) (h : VXX k X) {b : Int32} (hb : ix b < ix (kNb k)) (s : Int32) (x : Int64) : VXX k (aUp k X b s x).1 := by
  unfold aUp
  split
  · split
    · split
      · exact vx_up1 hk h hb
      · exact vx_cap (vx_up1 hk h hb) b
    · exact vx_up1 hk h hb
  · exact vx_up1 hk h hb
theorem vx_fill {k : KK} {X : X6} (hk : VKK k) (h : VXX k X) {b : Int32} (hb : ix b < ix (kNb k)) : VXX k (aFill k X b) := by
  have e1 := (h.1 _ hb).2.1
  have e2 := (hk.2.1 _ hb).2.2.2
  have e3 := b_sub (b_add e1 (b_lit (a := 20) (l := 20) (u := 20) (by decide)) (by omega) (by omega)) e2 (by omega) (by omega)
  have e4 : bt (aFillM k X b) 0 100 := by
    unfold aFillM
    split
    · next z =>
      rw [Int32.lt_iff_toInt_lt] at z
      have z : (xMa X (ix b) + 20 - kFl k (ix b)).toInt < 100 := z
      exact ⟨by have := e3.1; omega, by omega⟩
    · exact b_lit (by decide)
  unfold aFill
  have e5 := vx_ma (b := ix b) h e4
  split
  · refine vx_ho e5 ?_
    split <;> exact b_lit (by decide)
  · exact e5
theorem able_b {k : KK} {X : X6} (hk : VKK k) (b p : Int32) : bt (aAble k X b p) 0 12 := by
  rw [able_cnt]
  have h1 := cnt_le (fun h => kBo k h = b ∧ xSp X h = p ∧ ¬ xGr X h ≤ 0) (ix (kNh k))
  have h2 := (ix_b (n := 12) (by decide) hk.1.2.2.2.2).1
  exact b_nI (u := 12) (by omega) (by decide)
theorem b_mul5 {a : Int32} (h : bt a 0 12) : bt (5 * a) 0 60 := by
  obtain ⟨n, -, h2, rfl⟩ := b_of (u := 12) (by decide) h
  exact (by decide +kernel : ∀ n : Nat, n < 13 → 0 ≤ (5 * nI n).toInt ∧ (5 * nI n).toInt ≤ 60) n (by omega)
theorem vx_bail {k : KK} {X : X6} (hk : VKK k) (h : VXX k X) {b : Int32} (hb : ix b < ix (kNb k)) : VXX k (aBail k X b) := by
  have e1 := (h.1 _ hb).2.2
  have e3 := b_sub (b_sub e1 (b_mul5 (able_b (X := X) hk b 0)) (by omega) (by omega)) (hk.2.1 _ hb).2.2.1 (by omega) (by omega)
  have e4 : bt (aBailW k X b) 0 70 := by
    unfold aBailW
    split
    · next z =>
      rw [Int32.lt_iff_toInt_lt] at z
      have z : 0 < (xWa X (ix b) - 5 * aAble k X b 0 - kAi k (ix b)).toInt := z
      exact ⟨by omega, by have := e3.2; omega⟩
    · exact b_lit (by decide)
  unfold aBail
  split
  · refine vx_ho (vx_wa h e4) ?_
    split <;> exact b_lit (by decide)
  · exact h
theorem vx_ride {k : KK} {X : X6} (hk : VKK k) (h : VXX k X) {b : Int32} (hb : ix b < ix (kNb k)) (s : Int32) (x : Int64) : VXX k (aRide k X b s x).1 := by
  unfold aRide
  split
  · split
    · exact vx_bail hk h hb
    · exact vx_cap h b
  · exact vx_bail hk h hb
theorem vx_rnd {k : KK} {X : X6} (h : VXX k X) (b : Int32) : VXX k (aRnd k X b) := by
  unfold aRnd
  split
  · refine vx_ho h ?_
    split <;> exact b_lit (by decide)
  · split
    · exact h
    · exact vx_si (vx_ma (vx_ho h (b_lit (by decide))) (b_lit (by decide))) _
theorem vx_chill {k : KK} {X : X6} (hk : VKK k) (h : VXX k X) (b : Int32) : VXX k (aChill k X b) := by
  refine ⟨h.1, fun i hi => ⟨(h.2 i hi).1, ?_⟩⟩
  have e1 := (h.2 i hi).2
  have e2 := b_sub e1 (cold_b hk hi) (by omega) (by omega)
  show bt (mapF (xGr X) (fun h => if kBo k h = b ∧ (¬ xSp X h = 0 ∨ xHo X (ix b) = 4) then (if 0 < xGr X h - aCold k h then xGr X h - aCold k h else 0) else xGr X h) (ix (kNh k)) i) 0 1000
  unfold mapF
  rw [if_pos hi]
  simp only []
  split
  · split
    · next z =>
      rw [Int32.lt_iff_toInt_lt] at z
      have z : 0 < (xGr X i - aCold k i).toInt := z
      exact ⟨by omega, by have := e2.2; omega⟩
    · exact b_lit (by decide)
  · exact e1
theorem vx_tick {k : KK} {X : X6} (hk : VKK k) (h : VXX k X) {b : Int32} (hb : ix b < ix (kNb k)) (s : Int32) (x : Int64) : VXX k (aTick k X b s x).1 := by
  unfold aTick
  refine vx_chill hk ?_ b
  rw [aT1_eq]
  split
  · unfold aSid
    split
    · exact vx_fill hk h hb
    · exact vx_up hk h hb s x
  · split
    · exact vx_rnd h b
    · exact vx_ride hk h hb s x
theorem RC_x {k : KK} {X X' : X6} {t : Int32} {K f F : Nat → Int32} (h : RC k X t K f) (hv : VXX k X') (he : E6 (ix (K 4)) X' F) (h48 : F 48 = f 48) : RC k X' t K F := ⟨h.1, he, h48.trans h.2.2.1, h.2.2.2.1, hv⟩
theorem e_sp1 {N : Nat} {X : X6} {f : Nat → Int32} {j : Nat} {v : Int32} (h : E6 N X f) (hj : j < 12) : E6 N (X.1, X.2.1, X.2.2.1, X.2.2.2.1, upd X.2.2.2.2.1 j v, X.2.2.2.2.2) (upd f (24 + 2 * j) v) := by
  refine ⟨fun b hb => ?_, fun i hi => ?_⟩
  · obtain ⟨h1, h2, h3, h4⟩ := h.1 b hb
    exact ⟨h1.trans (upd_ne (by omega)).symm, h2.trans (upd_ne (by omega)).symm, h3.trans (upd_ne (by omega)).symm, h4.trans (upd_ne (by omega)).symm⟩
  · obtain ⟨h1, h2⟩ := h.2 i hi
    refine ⟨?_, h2.trans (upd_ne (by omega)).symm⟩
    show upd X.2.2.2.2.1 j v i = _
    by_cases e : i = j
    · rw [upd_eq e, upd_eq (by omega)]
    · rw [upd_ne e, upd_ne (by omega)]; exact h1
end
section
theorem bo_of {m : xM} (hR : REL m) {j : Nat} (hj : j < ix (m.1 7 5)) : ∃ q, q < 6 ∧ m.1 16 j = nI q ∧ q < ix (m.1 7 4) ∧ ix (nI q) = q ∧ vp_in (nI q) 6 ∧ m.1 12 q = m.1 92 (4 * q + 0) := by
  have v := (V_h hR hj).2.2.1
  have hb : ¬ m.1 16 j < 0 ∧ ¬ m.1 7 4 ≤ m.1 16 j := by
    refine ⟨?_, ?_⟩
    · rw [Int32.lt_iff_toInt_lt]; show ¬ (m.1 16 j).toInt < 0; omega
    · rw [Int32.le_iff_toInt_le]; omega
  obtain ⟨q, h1, h2, h3, h4, h5⟩ := isB_of hR hb
  exact ⟨q, h1, h2, h3, h4, h5, (R_b hR h3).1⟩

def S175 (as : List Value) (m : xM) (Q : xQt) : Prop := match as with
  | [.ref o, .int a] => wp (fun _ _ _ _ => False) (fun _ => false) Q (some .boolean) (TT []) none i175 [.ref o, .int a] [] m
  | _ => False
theorem s175 (o : Nat) (a : Int32) (m : xM) (Q : xQt) : S175 [.ref o, .int a] m Q = wp (fun _ _ _ _ => False) (fun _ => false) Q (some .boolean) (TT []) none i175 [.ref o, .int a] [] m := rfl
theorem t175 {G : xG} : ∀ as m Q, S175 as m Q → Tri G 175 as m Q := by
  intro as m Q h
  match as, h with
  | [.ref o, .int a], h => exact tri_wp (T := TT []) (ls := [.ref o, .int a]) TTn c175 (by decide +kernel) (rt0 := some .boolean) rfl rfl (Nat.le_of_ble_eq_true rfl) rfl h

theorem p54 {G : xG} {m : xM} (hR : REL m) (a : Int32) (a2 : Int32) {Q : xQt} (h : ∀ r m1, MID G 171 [.ref 86, .int a, .int a2] r m1 → Q (some r) m1) : Tri G 54 [.ref 0, .int a, .int a2] m Q := by
  by_cases hb : ¬ a < 0 ∧ ¬ m.1 7 5 ≤ a
  · obtain ⟨j, hj, rfl, hjb, hij, hin⟩ := isH_of hR hb
    have hmb := m_isH hR (nI j)
    obtain ⟨q, q1, q2, q3, q4, q5, q6⟩ := bo_of hR hjb
    obtain ⟨e1, e2, e3, e4, e5⟩ := R_h hR hjb
    obtain ⟨v1, v2, v3, v4, v5⟩ := V_h hR hjb
    refine tri_wp (T := TT [(55, S55), (56, S56), (57, S57)]) (ls := [.ref 0, .int (nI j), .int a2]) (TTc t55 (TTc t56 (TTc t57 TTn))) c54 (by decide +kernel) (rt0 := some .long) rfl rfl (Nat.le_of_ble_eq_true rfl) rfl ?_
    simp (disch := omega) only [i54, wp_iinc, wpE0, wpE1, wpE2, wpE3, wpE4, wpE5, wpJ, okS, lt4S, popR, litS, Int32.reduceLT, Int32.reduceLE, List.getElem?_cons_zero, List.getElem?_cons_succ, Bool.false_eq_true, ↓reduceIte, Nat.reduceMod, Nat.reduceDiv, Nat.reduceAdd, Nat.reduceSub, Nat.reduceMul, Nat.reduceLeDiff, Nat.reduceEqDiff, Nat.reduceBEq, Int.reduceToNat, Int.reduceAdd, Int32.reduceOfInt, Int64.reduceOfInt, Int32.reduceToNatClampNeg, Int32.reduceOfNat, Bool.or_self, Bool.or_false, Bool.false_or, Bool.true_or, Bool.or_true, true_and, and_true, false_and, and_false, List.set_cons_zero, List.set_cons_succ, List.take_succ_cons, List.take_zero, List.drop_succ_cons, List.drop_zero, List.reverse_cons, List.reverse_nil, List.nil_append, List.cons_append, List.length_cons, List.length_nil, Option.toList_some, Option.toList_none, not_true_eq_false, not_false_eq_true, forall_const, true_implies, false_implies, nrw, TTS, s55, s56, s57, shO, sh7L, and01, bI_0, bI_and, isCl, isRl, cmpS, toLS, toL_le, toL_lt, i2lS, inM, Int64.reduceLE, Int64.reduceLT, xa_1, xa_2, xa_xa, upd_at, updU, Nat.reduceEqDiff, ↓reduceIte, not_true_eq_false, not_false_eq_true, and_true, true_and, and_false, false_and, and_self, or_true, true_or, or_false, false_or, ↓reduceIte, if_true, if_false, eq_self, hb, hij, hin, Classical.not_not]
    rw [q2]
    simp only [q4]
    refine ⟨fun z1 => ?_, fun z1 => ⟨fun z2 => ⟨fun z3 => ?_, fun z3 => ⟨fun z4 => ⟨q5, fun z5 => ?_, fun z5 => ?_⟩, fun z4 => ?_⟩⟩, fun z2 => ?_⟩⟩
    · have z1 : ¬ 0 ≤ a2 := Int32.not_le.mpr z1
      refine h _ _ (fun Q' hq => ?_)
      refine tri_wp (T := TT [(172, S172), (148, S148), (173, S173), (175, S175), (174, S174)]) (ls := [.ref 86, .int (nI j), .int a2]) (TTc t172 (TTc t148 (TTc t173 (TTc t175 (TTc t174 TTn))))) c171 (by decide +kernel) (rt0 := some .long) rfl rfl (Nat.le_of_ble_eq_true rfl) rfl ?_
      simp (disch := omega) only [i171, wp_iinc, wpE0, wpE1, wpE2, wpE3, wpE4, wpE5, wpJ, okS, lt4S, popR, litS, Int32.reduceLT, Int32.reduceLE, List.getElem?_cons_zero, List.getElem?_cons_succ, Bool.false_eq_true, ↓reduceIte, Nat.reduceMod, Nat.reduceDiv, Nat.reduceAdd, Nat.reduceSub, Nat.reduceMul, Nat.reduceLeDiff, Nat.reduceEqDiff, Nat.reduceBEq, Int.reduceToNat, Int.reduceAdd, Int32.reduceOfInt, Int64.reduceOfInt, Int32.reduceToNatClampNeg, Int32.reduceOfNat, Bool.or_self, Bool.or_false, Bool.false_or, Bool.true_or, Bool.or_true, true_and, and_true, false_and, and_false, List.set_cons_zero, List.set_cons_succ, List.take_succ_cons, List.take_zero, List.drop_succ_cons, List.drop_zero, List.reverse_cons, List.reverse_nil, List.nil_append, List.cons_append, List.length_cons, List.length_nil, Option.toList_some, Option.toList_none, not_true_eq_false, not_false_eq_true, forall_const, true_implies, false_implies, nrw, TTS, s172, s148, s173, s175, s174, i173, i175, i174, shM, shO, and01, bI_0, bI_and, isRl, cmpS, toLS, toL_le, toL_lt, i2lS, inM, Int64.reduceLE, Int64.reduceLT, xa_1, xa_2, xa_xa, upd_at, updU, linS, nI_add, nI_s2, clN, inN, inLS, Nat.reduceEqDiff, ↓reduceIte, not_true_eq_false, not_false_eq_true, and_true, true_and, and_false, false_and, and_self, or_true, true_or, or_false, false_or, ↓reduceIte, if_true, if_false, eq_self, hmb, hb, hij, hin, Classical.not_not, z1]
      exact hq _ (REL_thr hR 0)
    · have z1 : 0 ≤ a2 := Int32.not_lt.mp z1
      rw [e2] at z3
      refine h _ _ (fun Q' hq => ?_)
      refine tri_wp (T := TT [(172, S172), (148, S148), (173, S173), (175, S175), (174, S174)]) (ls := [.ref 86, .int (nI j), .int a2]) (TTc t172 (TTc t148 (TTc t173 (TTc t175 (TTc t174 TTn))))) c171 (by decide +kernel) (rt0 := some .long) rfl rfl (Nat.le_of_ble_eq_true rfl) rfl ?_
      simp (disch := omega) only [i171, wp_iinc, wpE0, wpE1, wpE2, wpE3, wpE4, wpE5, wpJ, okS, lt4S, popR, litS, Int32.reduceLT, Int32.reduceLE, List.getElem?_cons_zero, List.getElem?_cons_succ, Bool.false_eq_true, ↓reduceIte, Nat.reduceMod, Nat.reduceDiv, Nat.reduceAdd, Nat.reduceSub, Nat.reduceMul, Nat.reduceLeDiff, Nat.reduceEqDiff, Nat.reduceBEq, Int.reduceToNat, Int.reduceAdd, Int32.reduceOfInt, Int64.reduceOfInt, Int32.reduceToNatClampNeg, Int32.reduceOfNat, Bool.or_self, Bool.or_false, Bool.false_or, Bool.true_or, Bool.or_true, true_and, and_true, false_and, and_false, List.set_cons_zero, List.set_cons_succ, List.take_succ_cons, List.take_zero, List.drop_succ_cons, List.drop_zero, List.reverse_cons, List.reverse_nil, List.nil_append, List.cons_append, List.length_cons, List.length_nil, Option.toList_some, Option.toList_none, not_true_eq_false, not_false_eq_true, forall_const, true_implies, false_implies, nrw, TTS, s172, s148, s173, s175, s174, i173, i175, i174, shM, shO, and01, bI_0, bI_and, isRl, cmpS, toLS, toL_le, toL_lt, i2lS, inM, Int64.reduceLE, Int64.reduceLT, xa_1, xa_2, xa_xa, upd_at, updU, linS, nI_add, nI_s2, clN, inN, inLS, Nat.reduceEqDiff, ↓reduceIte, not_true_eq_false, not_false_eq_true, and_true, true_and, and_false, false_and, and_self, or_true, true_or, or_false, false_or, ↓reduceIte, if_true, if_false, eq_self, hmb, hb, hij, hin, Classical.not_not, z1, z2, z3]
      exact hq _ (REL_thr hR 0)
    · subst z4
      rw [e2] at z3
      rw [e3] at q2
      rw [q6] at z5
      have z1 : 0 ≤ (0 : Int32) := Int32.not_lt.mp z1
      refine h _ _ (fun Q' hq => ?_)
      refine tri_wp (T := TT [(172, S172), (148, S148), (173, S173), (175, S175), (174, S174)]) (ls := [.ref 86, .int (nI j), .int 0]) (TTc t172 (TTc t148 (TTc t173 (TTc t175 (TTc t174 TTn))))) c171 (by decide +kernel) (rt0 := some .long) rfl rfl (Nat.le_of_ble_eq_true rfl) rfl ?_
      simp (disch := omega) only [i171, wp_iinc, wpE0, wpE1, wpE2, wpE3, wpE4, wpE5, wpJ, okS, lt4S, popR, litS, Int32.reduceLT, Int32.reduceLE, List.getElem?_cons_zero, List.getElem?_cons_succ, Bool.false_eq_true, ↓reduceIte, Nat.reduceMod, Nat.reduceDiv, Nat.reduceAdd, Nat.reduceSub, Nat.reduceMul, Nat.reduceLeDiff, Nat.reduceEqDiff, Nat.reduceBEq, Int.reduceToNat, Int.reduceAdd, Int32.reduceOfInt, Int64.reduceOfInt, Int32.reduceToNatClampNeg, Int32.reduceOfNat, Bool.or_self, Bool.or_false, Bool.false_or, Bool.true_or, Bool.or_true, true_and, and_true, false_and, and_false, List.set_cons_zero, List.set_cons_succ, List.take_succ_cons, List.take_zero, List.drop_succ_cons, List.drop_zero, List.reverse_cons, List.reverse_nil, List.nil_append, List.cons_append, List.length_cons, List.length_nil, Option.toList_some, Option.toList_none, not_true_eq_false, not_false_eq_true, forall_const, true_implies, false_implies, nrw, TTS, s172, s148, s173, s175, s174, i173, i175, i174, shM, shO, and01, bI_0, bI_and, isRl, cmpS, toLS, toL_le, toL_lt, i2lS, inM, Int64.reduceLE, Int64.reduceLT, xa_1, xa_2, xa_xa, upd_at, updU, linS, nI_add, nI_s2, clN, inN, inLS, Nat.reduceEqDiff, ↓reduceIte, not_true_eq_false, not_false_eq_true, and_true, true_and, and_false, false_and, and_self, or_true, true_or, or_false, false_or, ↓reduceIte, if_true, if_false, eq_self, hmb, hb, hij, hin, Classical.not_not, z1, z2, z3, q2, q4, q5]
      refine ⟨fun _ => ?_, fun y1 => ⟨fun _ => ?_, fun y2 => absurd ⟨y1, y2⟩ z5⟩⟩
      · have hv : bt (0 : Int32) 0 3 := b_lit (by decide)
        refine hq _ ?_
        exact REL.mk (by exact hR.rows) (by exact hR.tape) (by exact RC_x (X := g6 m 7) hR.club (vx_sp hR.club.2.2.2.2 hv) (e_sp1 hR.club.2.1 hj) (upd_ne (by omega))) (by exact hR.there) (by exact hR.im0) (by exact hR.im1) (by exact hR.kept0) (by exact hR.kept1) (by exact hR.fault) (by exact hR.status) (by exact hR.trace) (by exact hR.still)
      · have hv : bt (0 : Int32) 0 3 := b_lit (by decide)
        refine hq _ ?_
        exact REL.mk (by exact hR.rows) (by exact hR.tape) (by exact RC_x (X := g6 m 7) hR.club (vx_sp hR.club.2.2.2.2 hv) (e_sp1 hR.club.2.1 hj) (upd_ne (by omega))) (by exact hR.there) (by exact hR.im0) (by exact hR.im1) (by exact hR.kept0) (by exact hR.kept1) (by exact hR.fault) (by exact hR.status) (by exact hR.trace) (by exact hR.still)
    · subst z4
      rw [e2] at z3
      rw [e3] at q2
      rw [q6] at z5
      have z1 : 0 ≤ (0 : Int32) := Int32.not_lt.mp z1
      refine h _ _ (fun Q' hq => ?_)
      refine tri_wp (T := TT [(172, S172), (148, S148), (173, S173), (175, S175), (174, S174)]) (ls := [.ref 86, .int (nI j), .int 0]) (TTc t172 (TTc t148 (TTc t173 (TTc t175 (TTc t174 TTn))))) c171 (by decide +kernel) (rt0 := some .long) rfl rfl (Nat.le_of_ble_eq_true rfl) rfl ?_
      simp (disch := omega) only [i171, wp_iinc, wpE0, wpE1, wpE2, wpE3, wpE4, wpE5, wpJ, okS, lt4S, popR, litS, Int32.reduceLT, Int32.reduceLE, List.getElem?_cons_zero, List.getElem?_cons_succ, Bool.false_eq_true, ↓reduceIte, Nat.reduceMod, Nat.reduceDiv, Nat.reduceAdd, Nat.reduceSub, Nat.reduceMul, Nat.reduceLeDiff, Nat.reduceEqDiff, Nat.reduceBEq, Int.reduceToNat, Int.reduceAdd, Int32.reduceOfInt, Int64.reduceOfInt, Int32.reduceToNatClampNeg, Int32.reduceOfNat, Bool.or_self, Bool.or_false, Bool.false_or, Bool.true_or, Bool.or_true, true_and, and_true, false_and, and_false, List.set_cons_zero, List.set_cons_succ, List.take_succ_cons, List.take_zero, List.drop_succ_cons, List.drop_zero, List.reverse_cons, List.reverse_nil, List.nil_append, List.cons_append, List.length_cons, List.length_nil, Option.toList_some, Option.toList_none, not_true_eq_false, not_false_eq_true, forall_const, true_implies, false_implies, nrw, TTS, s172, s148, s173, s175, s174, i173, i175, i174, shM, shO, and01, bI_0, bI_and, isRl, cmpS, toLS, toL_le, toL_lt, i2lS, inM, Int64.reduceLE, Int64.reduceLT, xa_1, xa_2, xa_xa, upd_at, updU, linS, nI_add, nI_s2, clN, inN, inLS, Nat.reduceEqDiff, ↓reduceIte, not_true_eq_false, not_false_eq_true, and_true, true_and, and_false, false_and, and_self, or_true, true_or, or_false, false_or, ↓reduceIte, if_true, if_false, eq_self, hmb, hb, hij, hin, Classical.not_not, z1, z2, z3, q2, q4, q5, z5]
      exact hq _ (REL_thr hR 0)
    · have z1 : 0 ≤ a2 := Int32.not_lt.mp z1
      rw [e2] at z3
      refine h _ _ (fun Q' hq => ?_)
      refine tri_wp (T := TT [(172, S172), (148, S148), (173, S173), (175, S175), (174, S174)]) (ls := [.ref 86, .int (nI j), .int a2]) (TTc t172 (TTc t148 (TTc t173 (TTc t175 (TTc t174 TTn))))) c171 (by decide +kernel) (rt0 := some .long) rfl rfl (Nat.le_of_ble_eq_true rfl) rfl ?_
      simp (disch := omega) only [i171, wp_iinc, wpE0, wpE1, wpE2, wpE3, wpE4, wpE5, wpJ, okS, lt4S, popR, litS, Int32.reduceLT, Int32.reduceLE, List.getElem?_cons_zero, List.getElem?_cons_succ, Bool.false_eq_true, ↓reduceIte, Nat.reduceMod, Nat.reduceDiv, Nat.reduceAdd, Nat.reduceSub, Nat.reduceMul, Nat.reduceLeDiff, Nat.reduceEqDiff, Nat.reduceBEq, Int.reduceToNat, Int.reduceAdd, Int32.reduceOfInt, Int64.reduceOfInt, Int32.reduceToNatClampNeg, Int32.reduceOfNat, Bool.or_self, Bool.or_false, Bool.false_or, Bool.true_or, Bool.or_true, true_and, and_true, false_and, and_false, List.set_cons_zero, List.set_cons_succ, List.take_succ_cons, List.take_zero, List.drop_succ_cons, List.drop_zero, List.reverse_cons, List.reverse_nil, List.nil_append, List.cons_append, List.length_cons, List.length_nil, Option.toList_some, Option.toList_none, not_true_eq_false, not_false_eq_true, forall_const, true_implies, false_implies, nrw, TTS, s172, s148, s173, s175, s174, i173, i175, i174, shM, shO, and01, bI_0, bI_and, isRl, cmpS, toLS, toL_le, toL_lt, i2lS, inM, Int64.reduceLE, Int64.reduceLT, xa_1, xa_2, xa_xa, upd_at, updU, linS, nI_add, nI_s2, clN, inN, inLS, Nat.reduceEqDiff, ↓reduceIte, not_true_eq_false, not_false_eq_true, and_true, true_and, and_false, false_and, and_self, or_true, true_or, or_false, false_or, ↓reduceIte, if_true, if_false, eq_self, hmb, hb, hij, hin, Classical.not_not, z1, z2, z3, z4]
      have hv : bt a2 0 3 := by
        rw [Int32.le_iff_toInt_le] at z1 z2
        exact ⟨z1, z2⟩
      refine hq _ ?_
      exact REL.mk (by exact hR.rows) (by exact hR.tape) (by exact RC_x (X := g6 m 7) hR.club (vx_sp hR.club.2.2.2.2 hv) (e_sp1 hR.club.2.1 hj) (upd_ne (by omega))) (by exact hR.there) (by exact hR.im0) (by exact hR.im1) (by exact hR.kept0) (by exact hR.kept1) (by exact hR.fault) (by exact hR.status) (by exact hR.trace) (by exact hR.still)
    · have z1 : 0 ≤ a2 := Int32.not_lt.mp z1
      refine h _ _ (fun Q' hq => ?_)
      refine tri_wp (T := TT [(172, S172), (148, S148), (173, S173), (175, S175), (174, S174)]) (ls := [.ref 86, .int (nI j), .int a2]) (TTc t172 (TTc t148 (TTc t173 (TTc t175 (TTc t174 TTn))))) c171 (by decide +kernel) (rt0 := some .long) rfl rfl (Nat.le_of_ble_eq_true rfl) rfl ?_
      simp (disch := omega) only [i171, wp_iinc, wpE0, wpE1, wpE2, wpE3, wpE4, wpE5, wpJ, okS, lt4S, popR, litS, Int32.reduceLT, Int32.reduceLE, List.getElem?_cons_zero, List.getElem?_cons_succ, Bool.false_eq_true, ↓reduceIte, Nat.reduceMod, Nat.reduceDiv, Nat.reduceAdd, Nat.reduceSub, Nat.reduceMul, Nat.reduceLeDiff, Nat.reduceEqDiff, Nat.reduceBEq, Int.reduceToNat, Int.reduceAdd, Int32.reduceOfInt, Int64.reduceOfInt, Int32.reduceToNatClampNeg, Int32.reduceOfNat, Bool.or_self, Bool.or_false, Bool.false_or, Bool.true_or, Bool.or_true, true_and, and_true, false_and, and_false, List.set_cons_zero, List.set_cons_succ, List.take_succ_cons, List.take_zero, List.drop_succ_cons, List.drop_zero, List.reverse_cons, List.reverse_nil, List.nil_append, List.cons_append, List.length_cons, List.length_nil, Option.toList_some, Option.toList_none, not_true_eq_false, not_false_eq_true, forall_const, true_implies, false_implies, nrw, TTS, s172, s148, s173, s175, s174, i173, i175, i174, shM, shO, and01, bI_0, bI_and, isRl, cmpS, toLS, toL_le, toL_lt, i2lS, inM, Int64.reduceLE, Int64.reduceLT, xa_1, xa_2, xa_xa, upd_at, updU, linS, nI_add, nI_s2, clN, inN, inLS, Nat.reduceEqDiff, ↓reduceIte, not_true_eq_false, not_false_eq_true, and_true, true_and, and_false, false_and, and_self, or_true, true_or, or_false, false_or, ↓reduceIte, if_true, if_false, eq_self, hmb, hb, hij, hin, Classical.not_not, z1, z2]
      exact hq _ (REL_thr hR 0)
  · have hmb := m_isH hR a
    refine tri_wp (T := TT [(55, S55), (56, S56), (57, S57)]) (ls := [.ref 0, .int a, .int a2]) (TTc t55 (TTc t56 (TTc t57 TTn))) c54 (by decide +kernel) (rt0 := some .long) rfl rfl (Nat.le_of_ble_eq_true rfl) rfl ?_
    simp only [i54, wp_iinc, wpE0, wpE1, wpE2, wpE3, wpE4, wpE5, wpJ, okS, lt4S, popR, litS, Int32.reduceLT, Int32.reduceLE, List.getElem?_cons_zero, List.getElem?_cons_succ, Bool.false_eq_true, ↓reduceIte, Nat.reduceMod, Nat.reduceDiv, Nat.reduceAdd, Nat.reduceSub, Nat.reduceMul, Nat.reduceLeDiff, Nat.reduceEqDiff, Nat.reduceBEq, Int.reduceToNat, Int.reduceAdd, Int32.reduceOfInt, Int64.reduceOfInt, Int32.reduceToNatClampNeg, Int32.reduceOfNat, Bool.or_self, Bool.or_false, Bool.false_or, Bool.true_or, Bool.or_true, true_and, and_true, false_and, and_false, List.set_cons_zero, List.set_cons_succ, List.take_succ_cons, List.take_zero, List.drop_succ_cons, List.drop_zero, List.reverse_cons, List.reverse_nil, List.nil_append, List.cons_append, List.length_cons, List.length_nil, Option.toList_some, Option.toList_none, not_true_eq_false, not_false_eq_true, forall_const, true_implies, false_implies, nrw, TTS, s55, s56, s57, shO, sh7L, and01, bI_0, bI_and, isCl, isRl, cmpS, toLS, toL_le, toL_lt, i2lS, inM, Int64.reduceLE, Int64.reduceLT, xa_1, xa_2, xa_xa, upd_at, updU, Nat.reduceEqDiff, ↓reduceIte, not_true_eq_false, not_false_eq_true, and_true, true_and, and_false, false_and, and_self, or_true, true_or, or_false, false_or, ↓reduceIte, if_true, if_false, eq_self, hb, Classical.not_not]
    refine h _ _ (fun Q' hq => ?_)
    refine tri_wp (T := TT [(172, S172), (148, S148), (173, S173), (175, S175), (174, S174)]) (ls := [.ref 86, .int a, .int a2]) (TTc t172 (TTc t148 (TTc t173 (TTc t175 (TTc t174 TTn))))) c171 (by decide +kernel) (rt0 := some .long) rfl rfl (Nat.le_of_ble_eq_true rfl) rfl ?_
    simp only [i171, wp_iinc, wpE0, wpE1, wpE2, wpE3, wpE4, wpE5, wpJ, okS, lt4S, popR, litS, Int32.reduceLT, Int32.reduceLE, List.getElem?_cons_zero, List.getElem?_cons_succ, Bool.false_eq_true, ↓reduceIte, Nat.reduceMod, Nat.reduceDiv, Nat.reduceAdd, Nat.reduceSub, Nat.reduceMul, Nat.reduceLeDiff, Nat.reduceEqDiff, Nat.reduceBEq, Int.reduceToNat, Int.reduceAdd, Int32.reduceOfInt, Int64.reduceOfInt, Int32.reduceToNatClampNeg, Int32.reduceOfNat, Bool.or_self, Bool.or_false, Bool.false_or, Bool.true_or, Bool.or_true, true_and, and_true, false_and, and_false, List.set_cons_zero, List.set_cons_succ, List.take_succ_cons, List.take_zero, List.drop_succ_cons, List.drop_zero, List.reverse_cons, List.reverse_nil, List.nil_append, List.cons_append, List.length_cons, List.length_nil, Option.toList_some, Option.toList_none, not_true_eq_false, not_false_eq_true, forall_const, true_implies, false_implies, nrw, TTS, s172, s148, s173, s175, s174, i173, i175, i174, shM, shO, and01, bI_0, bI_and, isRl, cmpS, toLS, toL_le, toL_lt, i2lS, inM, Int64.reduceLE, Int64.reduceLT, xa_1, xa_2, xa_xa, upd_at, updU, linS, nI_add, nI_s2, clN, inN, inLS, Nat.reduceEqDiff, ↓reduceIte, not_true_eq_false, not_false_eq_true, and_true, true_and, and_false, false_and, and_self, or_true, true_or, or_false, false_or, ↓reduceIte, if_true, if_false, eq_self, hmb, hb, Classical.not_not]
    exact hq _ (REL_thr hR 0)

def S64 (as : List Value) (m : xM) (Q : xQt) : Prop := match as with
  | [.ref d, .int a] => wp (fun _ _ _ _ => False) (fun _ => false) Q (none) (TT []) none i64 [.ref d, .int a] [] m
  | _ => False
theorem s64 (d : Nat) (a : Int32) (m : xM) (Q : xQt) : S64 [.ref d, .int a] m Q = wp (fun _ _ _ _ => False) (fun _ => false) Q (none) (TT []) none i64 [.ref d, .int a] [] m := rfl
theorem t64 {G : xG} : ∀ as m Q, S64 as m Q → Tri G 64 as m Q := by
  intro as m Q h
  match as, h with
  | [.ref d, .int a], h => exact tri_wp (T := TT []) (ls := [.ref d, .int a]) TTn c64 (by decide +kernel) (rt0 := none) rfl rfl (Nat.le_of_ble_eq_true rfl) rfl h

theorem q67 (m : xM) (X : X6) : (s6 m 7 X).1 0 = m.1 0 ∧ (s6 m 7 X).1 1 = m.1 1 ∧ (s6 m 7 X).1 2 = m.1 2 ∧ (s6 m 7 X).1 3 = m.1 3 ∧ (s6 m 7 X).1 4 = m.1 4 ∧ (s6 m 7 X).1 5 = m.1 5 ∧ (s6 m 7 X).1 6 = m.1 6 ∧ (s6 m 7 X).1 7 = m.1 7 ∧ (s6 m 7 X).1 8 = m.1 8 ∧ (s6 m 7 X).1 9 = m.1 9 ∧ (s6 m 7 X).1 10 = m.1 10 ∧ (s6 m 7 X).1 11 = m.1 11 ∧ (s6 m 7 X).1 16 = m.1 16 ∧ (s6 m 7 X).1 17 = m.1 17 ∧ (s6 m 7 X).1 18 = m.1 18 ∧ (s6 m 7 X).1 63 = m.1 63 ∧ (s6 m 7 X).1 64 = m.1 64 ∧ (s6 m 7 X).1 79 = m.1 79 ∧ (s6 m 7 X).1 84 = m.1 84 ∧ (s6 m 7 X).1 85 = m.1 85 ∧ (s6 m 7 X).1 86 = m.1 86 ∧ (s6 m 7 X).1 87 = m.1 87 ∧ (s6 m 7 X).1 88 = m.1 88 ∧ (s6 m 7 X).1 89 = m.1 89 ∧ (s6 m 7 X).1 90 = m.1 90 ∧ (s6 m 7 X).1 91 = m.1 91 ∧ (s6 m 7 X).1 92 = m.1 92 ∧ (s6 m 7 X).1 93 = m.1 93 ∧ (s6 m 7 X).1 94 = m.1 94 ∧ (s6 m 7 X).1 95 = m.1 95 ∧ (s6 m 7 X).1 96 = m.1 96 ∧ (s6 m 7 X).1 97 = m.1 97 ∧ (s6 m 7 X).1 98 = m.1 98 ∧ (s6 m 7 X).1 99 = m.1 99 ∧ (s6 m 7 X).1 100 = m.1 100 ∧ (s6 m 7 X).2 = m.2 := ⟨rfl, rfl, rfl, rfl, rfl, rfl, rfl, rfl, rfl, rfl, rfl, rfl, rfl, rfl, rfl, rfl, rfl, rfl, rfl, rfl, rfl, rfl, rfl, rfl, rfl, rfl, rfl, rfl, rfl, rfl, rfl, rfl, rfl, rfl, rfl, rfl⟩
theorem p58 {G : xG} {m : xM} (hR : REL m) (a : Int32) {Q : xQt} (h : ∀ r m1, MID G 176 [.ref 86, .int a] r m1 → Q (some r) m1) : Tri G 58 [.ref 0, .int a] m Q := by
  by_cases hb : ¬ a < 0 ∧ ¬ m.1 7 4 ≤ a
  · obtain ⟨j, hj, rfl, hjb, hij, hin⟩ := isB_of hR hb
    have hmb := m_isB hR (nI j)
    obtain ⟨e1, e2, e3, e4, e5, e6, e7, e8⟩ := R_b hR hjb
    obtain ⟨v1, v2, v3, v4, v5, v6, v7⟩ := V_b hR hjb
    refine tri_wp (T := TT [(59, S59), (57, S57), (60, S60)]) (ls := [.ref 0, .int (nI j)]) (TTc t59 (TTc t57 (TTc t60 TTn))) c58 (by decide +kernel) (rt0 := some .long) rfl rfl (Nat.le_of_ble_eq_true rfl) rfl ?_
    simp (disch := omega) only [i58, wp_iinc, wpE0, wpE1, wpE2, wpE3, wpE4, wpE5, wpJ, okS, lt4S, popR, litS, Int32.reduceLT, Int32.reduceLE, List.getElem?_cons_zero, List.getElem?_cons_succ, Bool.false_eq_true, ↓reduceIte, Nat.reduceMod, Nat.reduceDiv, Nat.reduceAdd, Nat.reduceSub, Nat.reduceMul, Nat.reduceLeDiff, Nat.reduceEqDiff, Nat.reduceBEq, Int.reduceToNat, Int.reduceAdd, Int32.reduceOfInt, Int64.reduceOfInt, Int32.reduceToNatClampNeg, Int32.reduceOfNat, Bool.or_self, Bool.or_false, Bool.false_or, Bool.true_or, Bool.or_true, true_and, and_true, false_and, and_false, List.set_cons_zero, List.set_cons_succ, List.take_succ_cons, List.take_zero, List.drop_succ_cons, List.drop_zero, List.reverse_cons, List.reverse_nil, List.nil_append, List.cons_append, List.length_cons, List.length_nil, Option.toList_some, Option.toList_none, not_true_eq_false, not_false_eq_true, forall_const, true_implies, false_implies, nrw, TTS, s59, s57, s60, shO, sh7L, and01, bI_0, bI_and, isCl, isRl, cmpS, toLS, toL_le, toL_lt, i2lS, inM, Int64.reduceLE, Int64.reduceLT, xa_1, xa_2, xa_xa, upd_at, updU, Nat.reduceEqDiff, ↓reduceIte, not_true_eq_false, not_false_eq_true, and_true, true_and, and_false, false_and, and_self, or_true, true_or, or_false, false_or, ↓reduceIte, if_true, if_false, eq_self, hb, hij, hin, Classical.not_not]
    refine ⟨fun z => ⟨n12 hR, ?_⟩, fun z => ?_⟩
    · rw [e1] at z
      have hEK : EK (kk m 7) (m.1 90) := hR.club.1
      have hE6 : E6 (ix (m.1 90 4)) (g6 m 7) (m.1 92) := hR.club.2.1
      have hn90 := n12' hR
      refine h _ _ (fun Q' hq => ?_)
      refine tri_wp (T := TT [(177, S177), (175, S175), (178, S178b (kk m 7) (g6 m 7))]) (ls := [.ref 86, .int (nI j)]) (TTc t177 (TTc t175 (TTc (t178b (kk m 7) (g6 m 7)) TTn))) c176 (by decide +kernel) (rt0 := some .long) rfl rfl (Nat.le_of_ble_eq_true rfl) rfl ?_
      simp (disch := omega) only [i176, wp_iinc, wpE0, wpE1, wpE2, wpE3, wpE4, wpE5, wpJ, okS, lt4S, popR, litS, Int32.reduceLT, Int32.reduceLE, List.getElem?_cons_zero, List.getElem?_cons_succ, Bool.false_eq_true, ↓reduceIte, Nat.reduceMod, Nat.reduceDiv, Nat.reduceAdd, Nat.reduceSub, Nat.reduceMul, Nat.reduceLeDiff, Nat.reduceEqDiff, Nat.reduceBEq, Int.reduceToNat, Int.reduceAdd, Int32.reduceOfInt, Int64.reduceOfInt, Int32.reduceToNatClampNeg, Int32.reduceOfNat, Bool.or_self, Bool.or_false, Bool.false_or, Bool.true_or, Bool.or_true, true_and, and_true, false_and, and_false, List.set_cons_zero, List.set_cons_succ, List.take_succ_cons, List.take_zero, List.drop_succ_cons, List.drop_zero, List.reverse_cons, List.reverse_nil, List.nil_append, List.cons_append, List.length_cons, List.length_nil, Option.toList_some, Option.toList_none, not_true_eq_false, not_false_eq_true, forall_const, true_implies, false_implies, nrw, TTS, s177, s175, s178b, i175, shM, shO, and01, bI_0, bI_and, isRl, cmpS, toLS, toL_le, toL_lt, i2lS, inM, Int64.reduceLE, Int64.reduceLT, xa_1, xa_2, xa_xa, upd_at, updU, linS, nI_add, nI_s2, clN, inN, inLS, Nat.reduceEqDiff, ↓reduceIte, not_true_eq_false, not_false_eq_true, and_true, true_and, and_false, false_and, and_self, or_true, true_or, or_false, false_or, ↓reduceIte, if_true, if_false, eq_self, hmb, hb, hij, hin, Classical.not_not, hEK, hE6, hn90, q67]
      refine ⟨fun _ F f1 f2 => hq _ ?_, fun y1 => ⟨fun _ F f1 f2 => hq _ ?_, fun y2 => absurd ⟨y1, y2⟩ z⟩⟩
      · exact REL.mk (by exact hR.rows) (by exact hR.tape) (by exact RC_x (X := g6 m 7) hR.club (vx_cap hR.club.2.2.2.2 (nI j)) f1 f2) (by exact hR.there) (by exact hR.im0) (by exact hR.im1) (by exact hR.kept0) (by exact hR.kept1) (by exact hR.fault) (by exact hR.status) (by exact hR.trace) (by exact hR.still)
      · exact REL.mk (by exact hR.rows) (by exact hR.tape) (by exact RC_x (X := g6 m 7) hR.club (vx_cap hR.club.2.2.2.2 (nI j)) f1 f2) (by exact hR.there) (by exact hR.im0) (by exact hR.im1) (by exact hR.kept0) (by exact hR.kept1) (by exact hR.fault) (by exact hR.status) (by exact hR.trace) (by exact hR.still)
    · rw [e1] at z
      refine h _ _ (fun Q' hq => ?_)
      refine tri_wp (T := TT [(177, S177), (175, S175), (178, S178b (kk m 7) (g6 m 7))]) (ls := [.ref 86, .int (nI j)]) (TTc t177 (TTc t175 (TTc (t178b (kk m 7) (g6 m 7)) TTn))) c176 (by decide +kernel) (rt0 := some .long) rfl rfl (Nat.le_of_ble_eq_true rfl) rfl ?_
      simp (disch := omega) only [i176, wp_iinc, wpE0, wpE1, wpE2, wpE3, wpE4, wpE5, wpJ, okS, lt4S, popR, litS, Int32.reduceLT, Int32.reduceLE, List.getElem?_cons_zero, List.getElem?_cons_succ, Bool.false_eq_true, ↓reduceIte, Nat.reduceMod, Nat.reduceDiv, Nat.reduceAdd, Nat.reduceSub, Nat.reduceMul, Nat.reduceLeDiff, Nat.reduceEqDiff, Nat.reduceBEq, Int.reduceToNat, Int.reduceAdd, Int32.reduceOfInt, Int64.reduceOfInt, Int32.reduceToNatClampNeg, Int32.reduceOfNat, Bool.or_self, Bool.or_false, Bool.false_or, Bool.true_or, Bool.or_true, true_and, and_true, false_and, and_false, List.set_cons_zero, List.set_cons_succ, List.take_succ_cons, List.take_zero, List.drop_succ_cons, List.drop_zero, List.reverse_cons, List.reverse_nil, List.nil_append, List.cons_append, List.length_cons, List.length_nil, Option.toList_some, Option.toList_none, not_true_eq_false, not_false_eq_true, forall_const, true_implies, false_implies, nrw, TTS, s177, s175, s178b, i175, shM, shO, and01, bI_0, bI_and, isRl, cmpS, toLS, toL_le, toL_lt, i2lS, inM, Int64.reduceLE, Int64.reduceLT, xa_1, xa_2, xa_xa, upd_at, updU, linS, nI_add, nI_s2, clN, inN, inLS, Nat.reduceEqDiff, ↓reduceIte, not_true_eq_false, not_false_eq_true, and_true, true_and, and_false, false_and, and_self, or_true, true_or, or_false, false_or, ↓reduceIte, if_true, if_false, eq_self, hmb, hb, hij, hin, Classical.not_not, z]
      exact hq _ (REL_thr hR 0)
  · have hmb := m_isB hR a
    refine tri_wp (T := TT [(59, S59), (57, S57), (60, S60)]) (ls := [.ref 0, .int a]) (TTc t59 (TTc t57 (TTc t60 TTn))) c58 (by decide +kernel) (rt0 := some .long) rfl rfl (Nat.le_of_ble_eq_true rfl) rfl ?_
    simp only [i58, wp_iinc, wpE0, wpE1, wpE2, wpE3, wpE4, wpE5, wpJ, okS, lt4S, popR, litS, Int32.reduceLT, Int32.reduceLE, List.getElem?_cons_zero, List.getElem?_cons_succ, Bool.false_eq_true, ↓reduceIte, Nat.reduceMod, Nat.reduceDiv, Nat.reduceAdd, Nat.reduceSub, Nat.reduceMul, Nat.reduceLeDiff, Nat.reduceEqDiff, Nat.reduceBEq, Int.reduceToNat, Int.reduceAdd, Int32.reduceOfInt, Int64.reduceOfInt, Int32.reduceToNatClampNeg, Int32.reduceOfNat, Bool.or_self, Bool.or_false, Bool.false_or, Bool.true_or, Bool.or_true, true_and, and_true, false_and, and_false, List.set_cons_zero, List.set_cons_succ, List.take_succ_cons, List.take_zero, List.drop_succ_cons, List.drop_zero, List.reverse_cons, List.reverse_nil, List.nil_append, List.cons_append, List.length_cons, List.length_nil, Option.toList_some, Option.toList_none, not_true_eq_false, not_false_eq_true, forall_const, true_implies, false_implies, nrw, TTS, s59, s57, s60, shO, sh7L, and01, bI_0, bI_and, isCl, isRl, cmpS, toLS, toL_le, toL_lt, i2lS, inM, Int64.reduceLE, Int64.reduceLT, xa_1, xa_2, xa_xa, upd_at, updU, Nat.reduceEqDiff, ↓reduceIte, not_true_eq_false, not_false_eq_true, and_true, true_and, and_false, false_and, and_self, or_true, true_or, or_false, false_or, ↓reduceIte, if_true, if_false, eq_self, hb, Classical.not_not]
    refine h _ _ (fun Q' hq => ?_)
    refine tri_wp (T := TT [(177, S177), (175, S175), (178, S178b (kk m 7) (g6 m 7))]) (ls := [.ref 86, .int a]) (TTc t177 (TTc t175 (TTc (t178b (kk m 7) (g6 m 7)) TTn))) c176 (by decide +kernel) (rt0 := some .long) rfl rfl (Nat.le_of_ble_eq_true rfl) rfl ?_
    simp only [i176, wp_iinc, wpE0, wpE1, wpE2, wpE3, wpE4, wpE5, wpJ, okS, lt4S, popR, litS, Int32.reduceLT, Int32.reduceLE, List.getElem?_cons_zero, List.getElem?_cons_succ, Bool.false_eq_true, ↓reduceIte, Nat.reduceMod, Nat.reduceDiv, Nat.reduceAdd, Nat.reduceSub, Nat.reduceMul, Nat.reduceLeDiff, Nat.reduceEqDiff, Nat.reduceBEq, Int.reduceToNat, Int.reduceAdd, Int32.reduceOfInt, Int64.reduceOfInt, Int32.reduceToNatClampNeg, Int32.reduceOfNat, Bool.or_self, Bool.or_false, Bool.false_or, Bool.true_or, Bool.or_true, true_and, and_true, false_and, and_false, List.set_cons_zero, List.set_cons_succ, List.take_succ_cons, List.take_zero, List.drop_succ_cons, List.drop_zero, List.reverse_cons, List.reverse_nil, List.nil_append, List.cons_append, List.length_cons, List.length_nil, Option.toList_some, Option.toList_none, not_true_eq_false, not_false_eq_true, forall_const, true_implies, false_implies, nrw, TTS, s177, s175, s178b, i175, shM, shO, and01, bI_0, bI_and, isRl, cmpS, toLS, toL_le, toL_lt, i2lS, inM, Int64.reduceLE, Int64.reduceLT, xa_1, xa_2, xa_xa, upd_at, updU, linS, nI_add, nI_s2, clN, inN, inLS, Nat.reduceEqDiff, ↓reduceIte, not_true_eq_false, not_false_eq_true, and_true, true_and, and_false, false_and, and_self, or_true, true_or, or_false, false_or, ↓reduceIte, if_true, if_false, eq_self, hmb, hb, Classical.not_not]
    exact hq _ (REL_thr hR 0)
end
section
/-- a counted loop, whose states are told by a property -/
theorem vc_forP {G : xG} {y : Nat} {Q : xQt} {K : Nat → List Value → List Value → xM → Prop} {pc : Nat} (n : Nat) (L : Nat → List Value) (P : Nat → xM → Prop) (hs : ∀ i m, i < n → P i m → VC G y Q (fun pc' ls' st' m' => (pc' = pc ∧ st' = [] ∧ subL (L (i + 1)) ls' ∧ P (i + 1) m') ∨ K pc' ls' st' m') pc (L i) [] m) (hx : ∀ m, P n m → VC G y Q K pc (L n) [] m) {m : xM} (h0 : P 0 m) : VC G y Q K pc (L 0) [] m := by
  have key : ∀ d i m, i + d = n → P i m → VC G y Q K pc (L i) [] m := by
    intro d
    induction d with
    | zero =>
      intro i m hi hp
      rw [show i = n by omega] at hp ⊢
      exact hx m hp
    | succ d ih =>
      intro i m hi hp
      refine vc_mono ?_ (hs i m (by omega) hp)
      intro pc' ls' st' m' h
      rcases h with ⟨rfl, rfl, h1, h2⟩ | h
      · obtain ⟨g1, g2⟩ := subL_len h1
        exact vc_sub g1 g2 (ih (i + 1) m' (by omega) h2)
      · exact fun hK hl => hK _ _ _ _ hl h
  exact key n 0 m (by omega) h0
/-- ticks of all boats -/
def aDays (k : KK) (s : Int32) (nb : Nat) : Nat → X6 × Int64 → X6 × Int64
  | 0, p => p
  | n + 1, p => aBoats k s nb (aDays k s nb n p)
theorem xok_tick {k : KK} {X : X6} {b s : Int32} {x : Int64} (h : xOK x) : xOK (aTick k X b s x).2 := by
  show xOK (aT1 k X b s x).2
  rw [aT1_eq]
  split
  · unfold aSid
    split
    · exact h
    · unfold aUp
      split
      · split
        · split <;> exact draw_ok h
        · exact h
      · exact h
  · split
    · exact h
    · unfold aRide
      split
      · split <;> exact draw_ok h
      · exact h
theorem vx_boats {k : KK} (hk : VKK k) {s : Int32} {p : X6 × Int64} (h : VXX k p.1) (hx : xOK p.2) : ∀ n, n ≤ ix (kNb k) → VXX k (aBoats k s n p).1 ∧ xOK (aBoats k s n p).2
  | 0, _ => ⟨h, hx⟩
  | n + 1, hn => by
    have ih := vx_boats hk h hx (s := s) n (by omega)
    have h6 := (ix_b (n := 6) (by decide) hk.1.2.2.2.1).1
    exact ⟨vx_tick hk ih.1 (by rw [ix_nI (by omega)]; omega) s _, xok_tick ih.2⟩
theorem vx_days {k : KK} (hk : VKK k) {s : Int32} {p : X6 × Int64} (h : VXX k p.1) (hx : xOK p.2) : ∀ n, VXX k (aDays k s (ix (kNb k)) n p).1 ∧ xOK (aDays k s (ix (kNb k)) n p).2
  | 0 => ⟨h, hx⟩
  | n + 1 => vx_boats hk (vx_days hk h hx n).1 (vx_days hk h hx n).2 _ (Nat.le_refl _)
theorem s6_c (m : xM) (c : Nat) (X : X6) (f : Nat → Int32) : s6 (xa m c f) c X = xa (s6 m c X) c f := by
  refine Prod.ext (funext fun q => ?_) rfl
  by_cases h : q = c
  · subst h; simp [s6, xa]
  · simp [s6, xa, h]
/-- the Model's tick, of clubs that keep to their ranges -/

def S183c (k : KK) (X : X6) (s : Int32) (as : List Value) (m : xM) (Q : xQt) : Prop := match as with
  | [.ref o, .ref r, .int b, .int dw] => (o = 86) ∧ (isR r) ∧ (EK k (m.1 90)) ∧ (E6 (ix (m.1 90 4)) X (m.1 r)) ∧ (VKK k) ∧ (VXX k X) ∧ (¬ b < 0 ∧ ix b < ix (kNb k)) ∧ (xOK (m.2 86 19)) ∧ ((s = 0) = (¬ dw = 0)) ∧ (∀ F, E6 (ix (m.1 90 4)) (aTick k X b s (m.2 86 19)).1 F → F 48 = m.1 r 48 → Q none (xa (xb m 86 (vp_updL (m.2 86) 19 (aTick k X b s (m.2 86 19)).2)) r F))
  | _ => False
theorem s183c (k : KK) (X : X6) (s : Int32) (o : Nat) (r : Nat) (b : Int32) (dw : Int32) (m : xM) (Q : xQt) : S183c k X s [.ref o, .ref r, .int b, .int dw] m Q = ((o = 86) ∧ (isR r) ∧ (EK k (m.1 90)) ∧ (E6 (ix (m.1 90 4)) X (m.1 r)) ∧ (VKK k) ∧ (VXX k X) ∧ (¬ b < 0 ∧ ix b < ix (kNb k)) ∧ (xOK (m.2 86 19)) ∧ ((s = 0) = (¬ dw = 0)) ∧ (∀ F, E6 (ix (m.1 90 4)) (aTick k X b s (m.2 86 19)).1 F → F 48 = m.1 r 48 → Q none (xa (xb m 86 (vp_updL (m.2 86) 19 (aTick k X b s (m.2 86 19)).2)) r F))) := rfl
theorem how_5 {a : Int32} (h : bt a 0 4) : a = 0 ∨ a = 1 ∨ a = 2 ∨ a = 3 ∨ a = 4 := by
  have h1 := h.1
  have h2 := h.2
  simp only [← Int32.toInt_inj]
  show a.toInt = 0 ∨ a.toInt = 1 ∨ a.toInt = 2 ∨ a.toInt = 3 ∨ a.toInt = 4
  omega
theorem la_1 {a : Int32} (h : bt a 1 60) : 1 ≤ 6 * a := by
  obtain ⟨n, h1, h2, rfl⟩ := b_of (u := 60) (by decide) h
  exact (by decide +kernel : ∀ n : Nat, n < 61 → 1 ≤ n → (1 : Int32) ≤ 6 * nI n) n (by omega) (by omega)
theorem t183c {G : xG} (k : KK) (X : X6) (s : Int32) : ∀ as m Q, S183c k X s as m Q → Tri G 183 as m Q := by
  intro as m Q h
  match as, h with
  | [.ref o, .ref r, .int b, .int dw], h =>
    obtain ⟨ho, hr, hk, hx, hvk, hvx, hbb, hxo, hs, h⟩ := h
    have h6 := (ix_b (n := 6) (by decide) hvk.1.2.2.2.1).1
    have e3 : m.1 90 3 = kNb k := hk.1.2.2.2.1.symm
    have e4 : m.1 90 4 = kNh k := hk.1.2.2.2.2.symm
    have hb3 : ix b < ix (m.1 90 3) := by rw [e3]; exact hbb.2
    have hB := hk.2.1 _ hb3
    have hV := hvk.2.1 _ hbb.2
    have hX := hx.1 (ix b) (by omega)
    refine t183b k X s [.ref o, .ref r, .int b, .int dw] m Q ⟨ho, hr, ?_, xin hbb.1 (by omega), hb3, hk, hx, ?_, ?_, ?_, ?_, hxo, ?_, hs, h⟩
    · rw [e4]; exact bt_le hvk.1.2.2.2.2 rfl
    · rw [← hB.2.1]; exact b_w (l' := 0) hV.2.1 (by omega) (by omega)
    · rw [← hk.1.2.2.1]; exact hvk.1.2.2.1
    · intro i hi
      rw [← (hk.2.2 i hi).2.2]
      exact la_1 (hvk.2.2.1 i (by rw [← e4]; exact hi)).2.2
    · rw [← hX.1]; exact how_5 (hvx.1 _ hbb.2).1
    · rw [← hk.1.2.1]; exact hvk.1.2.1

def goM (m : xM) (a2 : Int32) (i : Nat) : xM := (xa (sX (xb (xa m 63 (upd (m.1 63) 0 0)) 63 (vp_updL (m.2 63) 1 a2.toInt64)) 7 63 (aDays (kk m 7) 0 (ix (m.1 7 4)) i (g6 m 7, a2.toInt64))) 7 (upd (m.1 7) 3 (m.1 7 3 + nI i)))
theorem goMS (m : xM) (a2 : Int32) (i : Nat) : (goM m a2 i).1 7 5 = m.1 7 5 ∧ (goM m a2 i).1 7 4 = m.1 7 4 ∧ (goM m a2 i).1 7 3 = m.1 7 3 + nI i ∧ kk (goM m a2 i) 7 = kk m 7 ∧ (goM m a2 i).1 63 0 = 0 := ⟨rfl, rfl, rfl, rfl, rfl⟩
theorem go_0 (m : xM) (a2 : Int32) : goM m a2 0 = (xb (xa m 63 (upd (m.1 63) 0 0)) 63 (vp_updL (m.2 63) 1 a2.toInt64)) := by
  show xa (sX (xb (xa m 63 (upd (m.1 63) 0 0)) 63 (vp_updL (m.2 63) 1 a2.toInt64)) 7 63 (g6 m 7, a2.toInt64)) 7 (upd (m.1 7) 3 (m.1 7 3 + 0)) = _
  rw [Int32.add_zero, upd_id (f := m.1 7) (i := 3) rfl]
  have e := sX_id (xb (xa m 63 (upd (m.1 63) 0 0)) 63 (vp_updL (m.2 63) 1 a2.toInt64)) 7 63
  have e2 : (g6 (xb (xa m 63 (upd (m.1 63) 0 0)) 63 (vp_updL (m.2 63) 1 a2.toInt64)) 7, ((xb (xa m 63 (upd (m.1 63) 0 0)) 63 (vp_updL (m.2 63) 1 a2.toInt64))).2 63 1) = (g6 m 7, a2.toInt64) := rfl
  rw [e2] at e
  rw [e]
  exact xa_id (xb (xa m 63 (upd (m.1 63) 0 0)) 63 (vp_updL (m.2 63) 1 a2.toInt64)) 7
theorem go_s (m : xM) (a2 : Int32) (i : Nat) : xa (sX (goM m a2 i) 7 63 (aBoats (kk m 7) 0 (ix (m.1 7 4)) (g6 (goM m a2 i) 7, (goM m a2 i).2 63 1))) 7 (upd ((goM m a2 i).1 7) 3 (m.1 7 3 + nI i + 1)) = goM m a2 (i + 1) := by
  have e4 : (g6 (goM m a2 i) 7, (goM m a2 i).2 63 1) = (aDays (kk m 7) 0 (ix (m.1 7 4)) i (g6 m 7, a2.toInt64)) := rfl
  have e5 : (goM m a2 i).1 7 = upd (m.1 7) 3 (m.1 7 3 + nI i) := rfl
  rw [e4, e5, updU, Int32.add_assoc, nI_1]
  show xa (s6 (xb (xa (sX (xb (xa m 63 (upd (m.1 63) 0 0)) 63 (vp_updL (m.2 63) 1 a2.toInt64)) 7 63 (aDays (kk m 7) 0 (ix (m.1 7 4)) i (g6 m 7, a2.toInt64))) 7 _) 63 _) 7 _) 7 _ = _
  rw [xb_xa, s6_c, xa_xa]
  exact congrArg (fun z => xa z 7 (upd (m.1 7) 3 (m.1 7 3 + nI (i + 1)))) (sX_sX (xb (xa m 63 (upd (m.1 63) 0 0)) 63 (vp_updL (m.2 63) 1 a2.toInt64)) 7 63 (aDays (kk m 7) 0 (ix (m.1 7 4)) i (g6 m 7, a2.toInt64)) _)

def S62 (as : List Value) (m : xM) (Q : xQt) : Prop := match as with
  | [.ref o, .int a, .int a2] => (o = 0) ∧ (¬ m.1 7 4 = 0) ∧ (¬ a < 1 ∧ ¬ 60 < a) ∧ (¬ a2 < 1 ∧ a2 ≤ 999999) ∧ (m.1 7 5 ≤ 12) ∧ (m.1 7 4 ≤ 6) ∧ Q (some (.long ((m.1 7 3 + a).toInt64))) (goM m a2 (ix a))
  | _ => False
theorem s62 (o : Nat) (a : Int32) (a2 : Int32) (m : xM) (Q : xQt) : S62 [.ref o, .int a, .int a2] m Q = ((o = 0) ∧ (¬ m.1 7 4 = 0) ∧ (¬ a < 1 ∧ ¬ 60 < a) ∧ (¬ a2 < 1 ∧ a2 ≤ 999999) ∧ (m.1 7 5 ≤ 12) ∧ (m.1 7 4 ≤ 6) ∧ Q (some (.long ((m.1 7 3 + a).toInt64))) (goM m a2 (ix a))) := rfl
theorem t62 {G : xG} : ∀ as m Q, S62 as m Q → Tri G 62 as m Q := by
  intro as m Q h
  match as, h with
  | [.ref o, .int a, .int a2], h =>
    obtain ⟨rfl, h1, h2, h3, hn, hB, h⟩ := h
    refine tri_vc (ls := [.ref 0, .int a, .int a2, .null]) (by decide +kernel) rfl (Nat.le_of_ble_eq_true rfl) ?_
    have ha : a = nI (ix a) ∧ ix a ≤ 60 := by
      have e0 : ¬ a < 0 := fun q => h2.1 (by rw [Int32.lt_iff_toInt_lt] at q ⊢; show a.toInt < 1; have q : a.toInt < 0 := q; omega)
      exact ⟨(ix_of e0).1, ix_max (k := 60) (Int32.not_lt.mp h2.2) (by decide)⟩
    refine vc_seq (pc1 := 50) (ls1 := [.ref 0, .int a, .int a2, .int 0]) (m1 := (xb (xa m 63 (upd (m.1 63) 0 0)) 63 (vp_updL (m.2 63) 1 a2.toInt64))) (vc_wp (T := TT [(63, S63), (64, S64), (65, S65)]) (TTc t63 (TTc t64 (TTc t65 TTn))) (fun p => p == 50) (rt0 := some .long) rfl c62 rfl ?_) ?_
    · simp only [i62, wp_iinc, wpE0, wpE1, wpE2, wpE3, wpE4, wpE5, wpJ, okS, lt4S, popR, litS, Int32.reduceLT, Int32.reduceLE, List.getElem?_cons_zero, List.getElem?_cons_succ, Bool.false_eq_true, ↓reduceIte, Nat.reduceMod, Nat.reduceDiv, Nat.reduceAdd, Nat.reduceSub, Nat.reduceMul, Nat.reduceLeDiff, Nat.reduceEqDiff, Nat.reduceBEq, Int.reduceToNat, Int.reduceAdd, Int32.reduceOfInt, Int64.reduceOfInt, Int32.reduceToNatClampNeg, Int32.reduceOfNat, Bool.or_self, Bool.or_false, Bool.false_or, Bool.true_or, Bool.or_true, true_and, and_true, false_and, and_false, List.set_cons_zero, List.set_cons_succ, List.take_succ_cons, List.take_zero, List.drop_succ_cons, List.drop_zero, List.reverse_cons, List.reverse_nil, List.nil_append, List.cons_append, List.length_cons, List.length_nil, Option.toList_some, Option.toList_none, not_true_eq_false, not_false_eq_true, forall_const, true_implies, false_implies, nrw, TTS, s63, s64, s65, i64, shO, sh7L, isCl, isDl, and01, bI_0, not_true_eq_false, not_false_eq_true, and_true, true_and, and_false, false_and, and_self, or_true, true_or, or_false, false_or, ↓reduceIte, if_true, if_false, eq_self, xa_1, xa_2, xb_1, Nat.reduceEqDiff, ↓reduceIte, h1, h2, h3, hn, hB, subS, true_and, and_true, true_or, or_false]
    rw [← go_0 m a2]
    refine vc_for (ix a) (fun i => [.ref 0, .int a, .int a2, .int (nI i)]) (fun i => goM m a2 i) (fun i hi => ?_) ?_
    · refine vc_wp (T := TT [(63, S63), (64, S64), (65, S65)]) (TTc t63 (TTc t64 (TTc t65 TTn))) (fun _ => false) (rt0 := some .long) rfl (ckl_drop 26 c62) rfl ?_
      have hi2 : ¬ ix a ≤ i := by omega
      simp only [List.drop, i62, wp_iinc, wpE0, wpE1, wpE2, wpE3, wpE4, wpE5, wpJ, okS, lt4S, popR, litS, Int32.reduceLT, Int32.reduceLE, List.getElem?_cons_zero, List.getElem?_cons_succ, Bool.false_eq_true, ↓reduceIte, Nat.reduceMod, Nat.reduceDiv, Nat.reduceAdd, Nat.reduceSub, Nat.reduceMul, Nat.reduceLeDiff, Nat.reduceEqDiff, Nat.reduceBEq, Int.reduceToNat, Int.reduceAdd, Int32.reduceOfInt, Int64.reduceOfInt, Int32.reduceToNatClampNeg, Int32.reduceOfNat, Bool.or_self, Bool.or_false, Bool.false_or, Bool.true_or, Bool.or_true, true_and, and_true, false_and, and_false, List.set_cons_zero, List.set_cons_succ, List.take_succ_cons, List.take_zero, List.drop_succ_cons, List.drop_zero, List.reverse_cons, List.reverse_nil, List.nil_append, List.cons_append, List.length_cons, List.length_nil, Option.toList_some, Option.toList_none, not_true_eq_false, not_false_eq_true, forall_const, true_implies, false_implies, nrw, TTS, s63, s64, s65, i64, shO, sh7L, isCl, isDl, and01, bI_0, not_true_eq_false, not_false_eq_true, and_true, true_and, and_false, false_and, and_self, or_true, true_or, or_false, false_or, ↓reduceIte, if_true, if_false, eq_self, xa_1, xa_2, xb_1, Nat.reduceEqDiff, ↓reduceIte, h1, h2, h3, hn, hB, subS, ix_le _ (show i < 2 ^ 31 by omega), hi2, goMS, go_s, not_true_eq_false, not_false_eq_true, and_true, true_and, and_false, false_and, and_self, or_true, true_or, or_false, false_or, ↓reduceIte, if_true, if_false, eq_self, nI_1]
    · refine vc_wp (T := TT [(63, S63), (64, S64), (65, S65)]) (TTc t63 (TTc t64 (TTc t65 TTn))) (fun _ => false) (rt0 := some .long) rfl (ckl_drop 26 c62) rfl ?_
      have hi2 : ix a ≤ ix a := Nat.le_refl _
      simp only [List.drop, i62, wp_iinc, wpE0, wpE1, wpE2, wpE3, wpE4, wpE5, wpJ, okS, lt4S, popR, litS, Int32.reduceLT, Int32.reduceLE, List.getElem?_cons_zero, List.getElem?_cons_succ, Bool.false_eq_true, ↓reduceIte, Nat.reduceMod, Nat.reduceDiv, Nat.reduceAdd, Nat.reduceSub, Nat.reduceMul, Nat.reduceLeDiff, Nat.reduceEqDiff, Nat.reduceBEq, Int.reduceToNat, Int.reduceAdd, Int32.reduceOfInt, Int64.reduceOfInt, Int32.reduceToNatClampNeg, Int32.reduceOfNat, Bool.or_self, Bool.or_false, Bool.false_or, Bool.true_or, Bool.or_true, true_and, and_true, false_and, and_false, List.set_cons_zero, List.set_cons_succ, List.take_succ_cons, List.take_zero, List.drop_succ_cons, List.drop_zero, List.reverse_cons, List.reverse_nil, List.nil_append, List.cons_append, List.length_cons, List.length_nil, Option.toList_some, Option.toList_none, not_true_eq_false, not_false_eq_true, forall_const, true_implies, false_implies, nrw, TTS, s63, s64, s65, i64, shO, sh7L, isCl, isDl, and01, bI_0, not_true_eq_false, not_false_eq_true, and_true, true_and, and_false, false_and, and_self, or_true, true_or, or_false, false_or, ↓reduceIte, if_true, if_false, eq_self, xa_1, xa_2, xb_1, Nat.reduceEqDiff, ↓reduceIte, h1, h2, h3, hn, hB, subS, ix_le _ (show ix a < 2 ^ 31 by omega), hi2, goMS, not_true_eq_false, not_false_eq_true, and_true, true_and, and_false, false_and, and_self, or_true, true_or, or_false, false_or, ↓reduceIte, if_true, if_false, eq_self]
      have e : nI (ix a) = a := ha.1.symm
      rw [e]
      exact h
end
section
def mg (m : xM) (x : Int64) (F : Nat → Int32) : xM := xa (xb (xa m 86 (upd (m.1 86) 0 0)) 86 (vp_updL (m.2 86) 19 x)) 92 F
theorem mgS (m : xM) (x : Int64) (F : Nat → Int32) : (mg m x F).1 90 = m.1 90 ∧ (mg m x F).1 92 = F ∧ (mg m x F).2 86 19 = x := ⟨rfl, rfl, rfl⟩
theorem mg_xa (m : xM) (x : Int64) (F F' : Nat → Int32) : xa (mg m x F) 92 F' = mg m x F' := xa_xa _ _ _ _
theorem mg_s (m : xM) (x y : Int64) (F F' : Nat → Int32) : xa (xb (mg m x F) 86 (vp_updL ((mg m x F).2 86) 19 y)) 92 F' = mg m y F' := by
  show xa (xb (xa (xb _ 86 _) 92 F) 86 (vp_updL (vp_updL (m.2 86) 19 x) 19 y)) 92 F' = _
  rw [xb_xa, xa_xa, xb_xb, updL_updL]
  rfl
theorem mg_0 (m : xM) (x : Int64) : xb (xa m 86 (upd (m.1 86) 0 0)) 86 (vp_updL (m.2 86) 19 x) = mg m x (m.1 92) := (xa_id (xb (xa m 86 (upd (m.1 86) 0 0)) 86 (vp_updL (m.2 86) 19 x)) 92).symm

theorem e_48 {N : Nat} {X : X6} {f : Nat → Int32} {v : Int32} (h : E6 N X f) (hN : N ≤ 12) : E6 N X (upd f 48 v) := by
  refine ⟨fun b hb => ?_, fun i hi => ?_⟩
  · obtain ⟨h1, h2, h3, h4⟩ := h.1 b hb
    exact ⟨h1.trans (upd_ne (by omega)).symm, h2.trans (upd_ne (by omega)).symm, h3.trans (upd_ne (by omega)).symm, h4.trans (upd_ne (by omega)).symm⟩
  · obtain ⟨h1, h2⟩ := h.2 i hi
    exact ⟨h1.trans (upd_ne (by omega)).symm, h2.trans (upd_ne (by omega)).symm⟩
def S182g (k : KK) (X : X6) (as : List Value) (m : xM) (Q : xQt) : Prop := match as with
  | [.ref o, .int a, .int a2] => (o = 86) ∧ (¬ m.1 86 7 = 0) ∧ (1 ≤ a ∧ a ≤ 60) ∧ (1 ≤ a2 ∧ a2 ≤ 999999) ∧ (EK k (m.1 90)) ∧ (E6 (ix (m.1 90 4)) X (m.1 92)) ∧ (VKK k) ∧ (VXX k X) ∧ (∀ F, E6 (ix (m.1 90 4)) (aDays k 0 (ix (kNb k)) (ix a) (X, a2.toInt64)).1 F → F 48 = m.1 92 48 + a → Q (some (.long (F 48).toInt64)) (mg m (aDays k 0 (ix (kNb k)) (ix a) (X, a2.toInt64)).2 F))
  | _ => False
theorem s182g (k : KK) (X : X6) (o : Nat) (a a2 : Int32) (m : xM) (Q : xQt) : S182g k X [.ref o, .int a, .int a2] m Q = ((o = 86) ∧ (¬ m.1 86 7 = 0) ∧ (1 ≤ a ∧ a ≤ 60) ∧ (1 ≤ a2 ∧ a2 ≤ 999999) ∧ (EK k (m.1 90)) ∧ (E6 (ix (m.1 90 4)) X (m.1 92)) ∧ (VKK k) ∧ (VXX k X) ∧ (∀ F, E6 (ix (m.1 90 4)) (aDays k 0 (ix (kNb k)) (ix a) (X, a2.toInt64)).1 F → F 48 = m.1 92 48 + a → Q (some (.long (F 48).toInt64)) (mg m (aDays k 0 (ix (kNb k)) (ix a) (X, a2.toInt64)).2 F))) := rfl
theorem t182g {G : xG} (k : KK) (X : X6) : ∀ as m Q, S182g k X as m Q → Tri G 182 as m Q := by
  intro as m Q h
  match as, h with
  | [.ref o, .int a, .int a2], h =>
    obtain ⟨ho, h1, h2, h3, hk, hx, hvk, hvx, h⟩ := h
    subst ho
    have ha : a = nI (ix a) ∧ ix a ≤ 60 := by
      have e0 : ¬ a < 0 := fun q => Int32.not_le.mpr (by rw [Int32.lt_iff_toInt_lt] at q ⊢; show a.toInt < 1; have q : a.toInt < 0 := q; omega) h2.1
      exact ⟨(ix_of e0).1, ix_max (k := 60) h2.2 (by decide)⟩
    have hxo : xOK a2.toInt64 := by
      have e1 := h3.1
      have e2 := h3.2
      rw [Int32.le_iff_toInt_le] at e1 e2
      have e1 : 1 ≤ a2.toInt := e1
      have e2 : a2.toInt ≤ 999999 := e2
      unfold xOK
      rw [Int32.toInt_toInt64]
      omega
    have h6 := (ix_b (n := 6) (by decide) hvk.1.2.2.2.1).1
    have e3 : m.1 90 3 = kNb k := hk.1.2.2.2.1.symm
    refine tri_vc (ls := [.ref 86, .int a, .int a2, .null, .null]) (by decide +kernel) rfl (Nat.le_of_ble_eq_true rfl) ?_
    refine vc_seq (pc1 := 52) (ls1 := [.ref 86, .int a, .int a2, .int 0, .null]) (m1 := mg m a2.toInt64 (m.1 92)) (vc_wp (T := TT [(148, S148)]) (TTc t148 TTn) (fun p => p == 52) (rt0 := some .long) rfl c182 rfl ?_) ?_
    · simp only [i182, wp_iinc, wpE0, wpE1, wpE2, wpE3, wpE4, wpE5, wpJ, okS, lt4S, popR, litS, Int32.reduceLT, Int32.reduceLE, List.getElem?_cons_zero, List.getElem?_cons_succ, Bool.false_eq_true, ↓reduceIte, Nat.reduceMod, Nat.reduceDiv, Nat.reduceAdd, Nat.reduceSub, Nat.reduceMul, Nat.reduceLeDiff, Nat.reduceEqDiff, Nat.reduceBEq, Int.reduceToNat, Int.reduceAdd, Int32.reduceOfInt, Int64.reduceOfInt, Int32.reduceToNatClampNeg, Int32.reduceOfNat, Bool.or_self, Bool.or_false, Bool.false_or, Bool.true_or, Bool.or_true, true_and, and_true, false_and, and_false, List.set_cons_zero, List.set_cons_succ, List.take_succ_cons, List.take_zero, List.drop_succ_cons, List.drop_zero, List.reverse_cons, List.reverse_nil, List.nil_append, List.cons_append, List.length_cons, List.length_nil, Option.toList_some, Option.toList_none, not_true_eq_false, not_false_eq_true, forall_const, true_implies, false_implies, nrw, TTS, s148, shM, shO, and01, bI_0, bI_and, isRl, cmpS, toLS, toL_le, toL_lt, i2lS, inM, Int64.reduceLE, Int64.reduceLT, xa_1, xa_2, xa_xa, upd_at, updU, linS, nI_add, nI_s2, clN, inN, inLS, Nat.reduceEqDiff, ↓reduceIte, not_true_eq_false, not_false_eq_true, and_true, true_and, and_false, false_and, and_self, or_true, true_or, or_false, false_or, ↓reduceIte, if_true, if_false, eq_self, h1, h2, h3, subS, mg_0, not_true_eq_false, not_false_eq_true, and_true, true_and, and_false, false_and, and_self, or_true, true_or, or_false, false_or, ↓reduceIte, if_true, if_false, eq_self]
    refine vc_forP (ix a) (fun i => [.ref 86, .int a, .int a2, .int (nI i), .null]) (fun i m' => ∃ F, m' = mg m (aDays k 0 (ix (kNb k)) i (X, a2.toInt64)).2 F ∧ E6 (ix (m.1 90 4)) (aDays k 0 (ix (kNb k)) i (X, a2.toInt64)).1 F ∧ F 48 = m.1 92 48 + nI i) (fun i m' hi hp => ?_) (fun m' hp => ?_) ⟨m.1 92, rfl, hx, (Int32.add_zero _).symm⟩
    · obtain ⟨F, rfl, f1, f2⟩ := hp
      have hv := vx_days (p := (X, a2.toInt64)) (s := 0) hvk hvx hxo i
      have hi2 : ¬ ix a ≤ i := by omega
      refine vc_seq (pc1 := 60) (ls1 := [.ref 86, .int a, .int a2, .int (nI i), .int 0]) (m1 := mg m (aDays k 0 (ix (kNb k)) i (X, a2.toInt64)).2 F) (vc_wp (T := TT [(148, S148)]) (TTc t148 TTn) (fun p => p == 60) (rt0 := some .long) rfl (ckl_drop 28 c182) rfl ?_) ?_
      · simp only [List.drop, i182, wp_iinc, wpE0, wpE1, wpE2, wpE3, wpE4, wpE5, wpJ, okS, lt4S, popR, litS, Int32.reduceLT, Int32.reduceLE, List.getElem?_cons_zero, List.getElem?_cons_succ, Bool.false_eq_true, ↓reduceIte, Nat.reduceMod, Nat.reduceDiv, Nat.reduceAdd, Nat.reduceSub, Nat.reduceMul, Nat.reduceLeDiff, Nat.reduceEqDiff, Nat.reduceBEq, Int.reduceToNat, Int.reduceAdd, Int32.reduceOfInt, Int64.reduceOfInt, Int32.reduceToNatClampNeg, Int32.reduceOfNat, Bool.or_self, Bool.or_false, Bool.false_or, Bool.true_or, Bool.or_true, true_and, and_true, false_and, and_false, List.set_cons_zero, List.set_cons_succ, List.take_succ_cons, List.take_zero, List.drop_succ_cons, List.drop_zero, List.reverse_cons, List.reverse_nil, List.nil_append, List.cons_append, List.length_cons, List.length_nil, Option.toList_some, Option.toList_none, not_true_eq_false, not_false_eq_true, forall_const, true_implies, false_implies, nrw, TTS, s148, shM, shO, and01, bI_0, bI_and, isRl, cmpS, toLS, toL_le, toL_lt, i2lS, inM, Int64.reduceLE, Int64.reduceLT, xa_1, xa_2, xa_xa, upd_at, updU, linS, nI_add, nI_s2, clN, inN, inLS, Nat.reduceEqDiff, ↓reduceIte, not_true_eq_false, not_false_eq_true, and_true, true_and, and_false, false_and, and_self, or_true, true_or, or_false, false_or, ↓reduceIte, if_true, if_false, eq_self, ix_le _ (show i < 2 ^ 31 by omega), hi2, subS, not_true_eq_false, not_false_eq_true, and_true, true_and, and_false, false_and, and_self, or_true, true_or, or_false, false_or, ↓reduceIte, if_true, if_false, eq_self]
      refine vc_forP (ix (kNb k)) (fun b => [.ref 86, .int a, .int a2, .int (nI i), .int (nI b)]) (fun b m' => ∃ F, m' = mg m (aBoats k 0 b (aDays k 0 (ix (kNb k)) i (X, a2.toInt64))).2 F ∧ E6 (ix (m.1 90 4)) (aBoats k 0 b (aDays k 0 (ix (kNb k)) i (X, a2.toInt64))).1 F ∧ F 48 = m.1 92 48 + nI i) (fun b m' hb hp => ?_) (fun m' hp => ?_) ⟨F, rfl, f1, f2⟩
      · obtain ⟨F, rfl, g1, g2⟩ := hp
        have hw := vx_boats hvk (s := 0) hv.1 hv.2 b (by omega)
        have hb2 : ¬ ix (kNb k) ≤ b := by omega
        have hb3 : ix (nI b) = b := ix_nI (by omega)
        have hb4 : ¬ nI b < 0 := nI_pos (by omega)
        refine vc_wp (T := TT [(148, S148), (183, S183c k (aBoats k 0 b (aDays k 0 (ix (kNb k)) i (X, a2.toInt64))).1 0)]) (TTc t148 (TTc (t183c k (aBoats k 0 b (aDays k 0 (ix (kNb k)) i (X, a2.toInt64))).1 0) TTn)) (fun _ => false) (rt0 := some .long) rfl (ckl_drop 33 c182) rfl ?_
        simp only [List.drop, i182, wp_iinc, wpE0, wpE1, wpE2, wpE3, wpE4, wpE5, wpJ, okS, lt4S, popR, litS, Int32.reduceLT, Int32.reduceLE, List.getElem?_cons_zero, List.getElem?_cons_succ, Bool.false_eq_true, ↓reduceIte, Nat.reduceMod, Nat.reduceDiv, Nat.reduceAdd, Nat.reduceSub, Nat.reduceMul, Nat.reduceLeDiff, Nat.reduceEqDiff, Nat.reduceBEq, Int.reduceToNat, Int.reduceAdd, Int32.reduceOfInt, Int64.reduceOfInt, Int32.reduceToNatClampNeg, Int32.reduceOfNat, Bool.or_self, Bool.or_false, Bool.false_or, Bool.true_or, Bool.or_true, true_and, and_true, false_and, and_false, List.set_cons_zero, List.set_cons_succ, List.take_succ_cons, List.take_zero, List.drop_succ_cons, List.drop_zero, List.reverse_cons, List.reverse_nil, List.nil_append, List.cons_append, List.length_cons, List.length_nil, Option.toList_some, Option.toList_none, not_true_eq_false, not_false_eq_true, forall_const, true_implies, false_implies, nrw, TTS, s148, s183c, shM, shO, and01, bI_0, bI_and, isRl, cmpS, toLS, toL_le, toL_lt, i2lS, inM, Int64.reduceLE, Int64.reduceLT, xa_1, xa_2, xa_xa, upd_at, updU, linS, nI_add, nI_s2, clN, inN, inLS, Nat.reduceEqDiff, ↓reduceIte, not_true_eq_false, not_false_eq_true, and_true, true_and, and_false, false_and, and_self, or_true, true_or, or_false, false_or, ↓reduceIte, if_true, if_false, eq_self, mgS, mg_s, e3, ix_le _ (show b < 2 ^ 31 by omega), hb2, hb3, hb4, hb, subS, hk, g1, g2, hvk, hw.1, hw.2, nI_1, not_true_eq_false, not_false_eq_true, and_true, true_and, and_false, false_and, and_self, or_true, true_or, or_false, false_or, ↓reduceIte, if_true, if_false, eq_self]
        exact fun F f3 f4 => ⟨F, rfl, f3, f4⟩
      · obtain ⟨F, rfl, g1, g2⟩ := hp
        refine vc_wp (T := TT [(148, S148)]) (TTc t148 TTn) (fun _ => false) (rt0 := some .long) rfl (ckl_drop 33 c182) rfl ?_
        have hi3 : ix (kNb k) ≤ ix (kNb k) := Nat.le_refl _
        simp only [List.drop, i182, wp_iinc, wpE0, wpE1, wpE2, wpE3, wpE4, wpE5, wpJ, okS, lt4S, popR, litS, Int32.reduceLT, Int32.reduceLE, List.getElem?_cons_zero, List.getElem?_cons_succ, Bool.false_eq_true, ↓reduceIte, Nat.reduceMod, Nat.reduceDiv, Nat.reduceAdd, Nat.reduceSub, Nat.reduceMul, Nat.reduceLeDiff, Nat.reduceEqDiff, Nat.reduceBEq, Int.reduceToNat, Int.reduceAdd, Int32.reduceOfInt, Int64.reduceOfInt, Int32.reduceToNatClampNeg, Int32.reduceOfNat, Bool.or_self, Bool.or_false, Bool.false_or, Bool.true_or, Bool.or_true, true_and, and_true, false_and, and_false, List.set_cons_zero, List.set_cons_succ, List.take_succ_cons, List.take_zero, List.drop_succ_cons, List.drop_zero, List.reverse_cons, List.reverse_nil, List.nil_append, List.cons_append, List.length_cons, List.length_nil, Option.toList_some, Option.toList_none, not_true_eq_false, not_false_eq_true, forall_const, true_implies, false_implies, nrw, TTS, s148, shM, shO, and01, bI_0, bI_and, isRl, cmpS, toLS, toL_le, toL_lt, i2lS, inM, Int64.reduceLE, Int64.reduceLT, xa_1, xa_2, xa_xa, upd_at, updU, linS, nI_add, nI_s2, clN, inN, inLS, Nat.reduceEqDiff, ↓reduceIte, not_true_eq_false, not_false_eq_true, and_true, true_and, and_false, false_and, and_self, or_true, true_or, or_false, false_or, ↓reduceIte, if_true, if_false, eq_self, mgS, mg_xa, e3, ix_le _ (show ix (kNb k) < 2 ^ 31 by omega), hi3, subS, nI_1, not_true_eq_false, not_false_eq_true, and_true, true_and, and_false, false_and, and_self, or_true, true_or, or_false, false_or, ↓reduceIte, if_true, if_false, eq_self]
        refine ⟨_, rfl, e_48 g1 (by rw [← hk.1.2.2.2.2]; exact (ix_b (n := 12) (by decide) hvk.1.2.2.2.2).1), ?_⟩
        rw [upd_eq rfl, g2, Int32.add_assoc, nI_1]
    · obtain ⟨F, rfl, g1, g2⟩ := hp
      refine vc_wp (T := TT [(148, S148)]) (TTc t148 TTn) (fun _ => false) (rt0 := some .long) rfl (ckl_drop 28 c182) rfl ?_
      have hi2 : ix a ≤ ix a := Nat.le_refl _
      simp only [List.drop, i182, wp_iinc, wpE0, wpE1, wpE2, wpE3, wpE4, wpE5, wpJ, okS, lt4S, popR, litS, Int32.reduceLT, Int32.reduceLE, List.getElem?_cons_zero, List.getElem?_cons_succ, Bool.false_eq_true, ↓reduceIte, Nat.reduceMod, Nat.reduceDiv, Nat.reduceAdd, Nat.reduceSub, Nat.reduceMul, Nat.reduceLeDiff, Nat.reduceEqDiff, Nat.reduceBEq, Int.reduceToNat, Int.reduceAdd, Int32.reduceOfInt, Int64.reduceOfInt, Int32.reduceToNatClampNeg, Int32.reduceOfNat, Bool.or_self, Bool.or_false, Bool.false_or, Bool.true_or, Bool.or_true, true_and, and_true, false_and, and_false, List.set_cons_zero, List.set_cons_succ, List.take_succ_cons, List.take_zero, List.drop_succ_cons, List.drop_zero, List.reverse_cons, List.reverse_nil, List.nil_append, List.cons_append, List.length_cons, List.length_nil, Option.toList_some, Option.toList_none, not_true_eq_false, not_false_eq_true, forall_const, true_implies, false_implies, nrw, TTS, s148, shM, shO, and01, bI_0, bI_and, isRl, cmpS, toLS, toL_le, toL_lt, i2lS, inM, Int64.reduceLE, Int64.reduceLT, xa_1, xa_2, xa_xa, upd_at, updU, linS, nI_add, nI_s2, clN, inN, inLS, Nat.reduceEqDiff, ↓reduceIte, not_true_eq_false, not_false_eq_true, and_true, true_and, and_false, false_and, and_self, or_true, true_or, or_false, false_or, ↓reduceIte, if_true, if_false, eq_self, mgS, ix_le _ (show ix a < 2 ^ 31 by omega), hi2, not_true_eq_false, not_false_eq_true, and_true, true_and, and_false, false_and, and_self, or_true, true_or, or_false, false_or, ↓reduceIte, if_true, if_false, eq_self]
      exact h F g1 (by rw [g2, ← ha.1])

theorem p62 {G : xG} {m : xM} (hR : REL m) (a : Int32) (a2 : Int32) {Q : xQt} (h : ∀ r m1, MID G 182 [.ref 86, .int a, .int a2] r m1 → Q (some r) m1) : Tri G 62 [.ref 0, .int a, .int a2] m Q := by
  by_cases h1 : m.1 7 4 = 0
  · have h1' : m.1 86 7 = 0 := hR.there ▸ h1
    refine tri_wp (T := TT [(63, S63)]) (ls := [.ref 0, .int a, .int a2, .null]) (TTc t63 TTn) c62 (by decide +kernel) (rt0 := some .long) rfl rfl (Nat.le_of_ble_eq_true rfl) rfl ?_
    simp only [i62, wp_iinc, wpE0, wpE1, wpE2, wpE3, wpE4, wpE5, wpJ, okS, lt4S, popR, litS, Int32.reduceLT, Int32.reduceLE, List.getElem?_cons_zero, List.getElem?_cons_succ, Bool.false_eq_true, ↓reduceIte, Nat.reduceMod, Nat.reduceDiv, Nat.reduceAdd, Nat.reduceSub, Nat.reduceMul, Nat.reduceLeDiff, Nat.reduceEqDiff, Nat.reduceBEq, Int.reduceToNat, Int.reduceAdd, Int32.reduceOfInt, Int64.reduceOfInt, Int32.reduceToNatClampNeg, Int32.reduceOfNat, Bool.or_self, Bool.or_false, Bool.false_or, Bool.true_or, Bool.or_true, true_and, and_true, false_and, and_false, List.set_cons_zero, List.set_cons_succ, List.take_succ_cons, List.take_zero, List.drop_succ_cons, List.drop_zero, List.reverse_cons, List.reverse_nil, List.nil_append, List.cons_append, List.length_cons, List.length_nil, Option.toList_some, Option.toList_none, not_true_eq_false, not_false_eq_true, forall_const, true_implies, false_implies, nrw, TTS, s63, shO, sh7L, and01, bI_0, bI_and, isCl, isRl, cmpS, toLS, toL_le, toL_lt, i2lS, inM, Int64.reduceLE, Int64.reduceLT, xa_1, xa_2, xa_xa, upd_at, updU, Nat.reduceEqDiff, ↓reduceIte, not_true_eq_false, not_false_eq_true, and_true, true_and, and_false, false_and, and_self, or_true, true_or, or_false, false_or, ↓reduceIte, if_true, if_false, eq_self, h1]
    refine h _ _ (fun Q' hq => ?_)
    refine tri_wp (T := TT [(148, S148)]) (ls := [.ref 86, .int a, .int a2, .null, .null]) (TTc t148 TTn) c182 (by decide +kernel) (rt0 := some .long) rfl rfl (Nat.le_of_ble_eq_true rfl) rfl ?_
    simp only [i182, wp_iinc, wpE0, wpE1, wpE2, wpE3, wpE4, wpE5, wpJ, okS, lt4S, popR, litS, Int32.reduceLT, Int32.reduceLE, List.getElem?_cons_zero, List.getElem?_cons_succ, Bool.false_eq_true, ↓reduceIte, Nat.reduceMod, Nat.reduceDiv, Nat.reduceAdd, Nat.reduceSub, Nat.reduceMul, Nat.reduceLeDiff, Nat.reduceEqDiff, Nat.reduceBEq, Int.reduceToNat, Int.reduceAdd, Int32.reduceOfInt, Int64.reduceOfInt, Int32.reduceToNatClampNeg, Int32.reduceOfNat, Bool.or_self, Bool.or_false, Bool.false_or, Bool.true_or, Bool.or_true, true_and, and_true, false_and, and_false, List.set_cons_zero, List.set_cons_succ, List.take_succ_cons, List.take_zero, List.drop_succ_cons, List.drop_zero, List.reverse_cons, List.reverse_nil, List.nil_append, List.cons_append, List.length_cons, List.length_nil, Option.toList_some, Option.toList_none, not_true_eq_false, not_false_eq_true, forall_const, true_implies, false_implies, nrw, TTS, s148, shM, shO, and01, bI_0, bI_and, isRl, cmpS, toLS, toL_le, toL_lt, i2lS, inM, Int64.reduceLE, Int64.reduceLT, xa_1, xa_2, xa_xa, upd_at, updU, linS, nI_add, nI_s2, clN, inN, inLS, Nat.reduceEqDiff, ↓reduceIte, not_true_eq_false, not_false_eq_true, and_true, true_and, and_false, false_and, and_self, or_true, true_or, or_false, false_or, ↓reduceIte, if_true, if_false, eq_self, h1']
    exact hq _ (REL_thr hR 0)
  have h1' : ¬ m.1 86 7 = 0 := fun q => h1 (hR.there ▸ q)
  by_cases h2 : a < 1
  · have h2' : ¬ 1 ≤ a := Int32.not_le.mpr h2
    refine tri_wp (T := TT [(63, S63)]) (ls := [.ref 0, .int a, .int a2, .null]) (TTc t63 TTn) c62 (by decide +kernel) (rt0 := some .long) rfl rfl (Nat.le_of_ble_eq_true rfl) rfl ?_
    simp only [i62, wp_iinc, wpE0, wpE1, wpE2, wpE3, wpE4, wpE5, wpJ, okS, lt4S, popR, litS, Int32.reduceLT, Int32.reduceLE, List.getElem?_cons_zero, List.getElem?_cons_succ, Bool.false_eq_true, ↓reduceIte, Nat.reduceMod, Nat.reduceDiv, Nat.reduceAdd, Nat.reduceSub, Nat.reduceMul, Nat.reduceLeDiff, Nat.reduceEqDiff, Nat.reduceBEq, Int.reduceToNat, Int.reduceAdd, Int32.reduceOfInt, Int64.reduceOfInt, Int32.reduceToNatClampNeg, Int32.reduceOfNat, Bool.or_self, Bool.or_false, Bool.false_or, Bool.true_or, Bool.or_true, true_and, and_true, false_and, and_false, List.set_cons_zero, List.set_cons_succ, List.take_succ_cons, List.take_zero, List.drop_succ_cons, List.drop_zero, List.reverse_cons, List.reverse_nil, List.nil_append, List.cons_append, List.length_cons, List.length_nil, Option.toList_some, Option.toList_none, not_true_eq_false, not_false_eq_true, forall_const, true_implies, false_implies, nrw, TTS, s63, shO, sh7L, and01, bI_0, bI_and, isCl, isRl, cmpS, toLS, toL_le, toL_lt, i2lS, inM, Int64.reduceLE, Int64.reduceLT, xa_1, xa_2, xa_xa, upd_at, updU, Nat.reduceEqDiff, ↓reduceIte, not_true_eq_false, not_false_eq_true, and_true, true_and, and_false, false_and, and_self, or_true, true_or, or_false, false_or, ↓reduceIte, if_true, if_false, eq_self, h1, h2]
    refine h _ _ (fun Q' hq => ?_)
    refine tri_wp (T := TT [(148, S148)]) (ls := [.ref 86, .int a, .int a2, .null, .null]) (TTc t148 TTn) c182 (by decide +kernel) (rt0 := some .long) rfl rfl (Nat.le_of_ble_eq_true rfl) rfl ?_
    simp only [i182, wp_iinc, wpE0, wpE1, wpE2, wpE3, wpE4, wpE5, wpJ, okS, lt4S, popR, litS, Int32.reduceLT, Int32.reduceLE, List.getElem?_cons_zero, List.getElem?_cons_succ, Bool.false_eq_true, ↓reduceIte, Nat.reduceMod, Nat.reduceDiv, Nat.reduceAdd, Nat.reduceSub, Nat.reduceMul, Nat.reduceLeDiff, Nat.reduceEqDiff, Nat.reduceBEq, Int.reduceToNat, Int.reduceAdd, Int32.reduceOfInt, Int64.reduceOfInt, Int32.reduceToNatClampNeg, Int32.reduceOfNat, Bool.or_self, Bool.or_false, Bool.false_or, Bool.true_or, Bool.or_true, true_and, and_true, false_and, and_false, List.set_cons_zero, List.set_cons_succ, List.take_succ_cons, List.take_zero, List.drop_succ_cons, List.drop_zero, List.reverse_cons, List.reverse_nil, List.nil_append, List.cons_append, List.length_cons, List.length_nil, Option.toList_some, Option.toList_none, not_true_eq_false, not_false_eq_true, forall_const, true_implies, false_implies, nrw, TTS, s148, shM, shO, and01, bI_0, bI_and, isRl, cmpS, toLS, toL_le, toL_lt, i2lS, inM, Int64.reduceLE, Int64.reduceLT, xa_1, xa_2, xa_xa, upd_at, updU, linS, nI_add, nI_s2, clN, inN, inLS, Nat.reduceEqDiff, ↓reduceIte, not_true_eq_false, not_false_eq_true, and_true, true_and, and_false, false_and, and_self, or_true, true_or, or_false, false_or, ↓reduceIte, if_true, if_false, eq_self, h1', h2']
    exact hq _ (REL_thr hR 0)
  have h2' : 1 ≤ a := Int32.not_lt.mp h2
  by_cases h3 : 60 < a
  · have h3' : ¬ a ≤ 60 := Int32.not_le.mpr h3
    refine tri_wp (T := TT [(63, S63)]) (ls := [.ref 0, .int a, .int a2, .null]) (TTc t63 TTn) c62 (by decide +kernel) (rt0 := some .long) rfl rfl (Nat.le_of_ble_eq_true rfl) rfl ?_
    simp only [i62, wp_iinc, wpE0, wpE1, wpE2, wpE3, wpE4, wpE5, wpJ, okS, lt4S, popR, litS, Int32.reduceLT, Int32.reduceLE, List.getElem?_cons_zero, List.getElem?_cons_succ, Bool.false_eq_true, ↓reduceIte, Nat.reduceMod, Nat.reduceDiv, Nat.reduceAdd, Nat.reduceSub, Nat.reduceMul, Nat.reduceLeDiff, Nat.reduceEqDiff, Nat.reduceBEq, Int.reduceToNat, Int.reduceAdd, Int32.reduceOfInt, Int64.reduceOfInt, Int32.reduceToNatClampNeg, Int32.reduceOfNat, Bool.or_self, Bool.or_false, Bool.false_or, Bool.true_or, Bool.or_true, true_and, and_true, false_and, and_false, List.set_cons_zero, List.set_cons_succ, List.take_succ_cons, List.take_zero, List.drop_succ_cons, List.drop_zero, List.reverse_cons, List.reverse_nil, List.nil_append, List.cons_append, List.length_cons, List.length_nil, Option.toList_some, Option.toList_none, not_true_eq_false, not_false_eq_true, forall_const, true_implies, false_implies, nrw, TTS, s63, shO, sh7L, and01, bI_0, bI_and, isCl, isRl, cmpS, toLS, toL_le, toL_lt, i2lS, inM, Int64.reduceLE, Int64.reduceLT, xa_1, xa_2, xa_xa, upd_at, updU, Nat.reduceEqDiff, ↓reduceIte, not_true_eq_false, not_false_eq_true, and_true, true_and, and_false, false_and, and_self, or_true, true_or, or_false, false_or, ↓reduceIte, if_true, if_false, eq_self, h1, h2, h3]
    refine h _ _ (fun Q' hq => ?_)
    refine tri_wp (T := TT [(148, S148)]) (ls := [.ref 86, .int a, .int a2, .null, .null]) (TTc t148 TTn) c182 (by decide +kernel) (rt0 := some .long) rfl rfl (Nat.le_of_ble_eq_true rfl) rfl ?_
    simp only [i182, wp_iinc, wpE0, wpE1, wpE2, wpE3, wpE4, wpE5, wpJ, okS, lt4S, popR, litS, Int32.reduceLT, Int32.reduceLE, List.getElem?_cons_zero, List.getElem?_cons_succ, Bool.false_eq_true, ↓reduceIte, Nat.reduceMod, Nat.reduceDiv, Nat.reduceAdd, Nat.reduceSub, Nat.reduceMul, Nat.reduceLeDiff, Nat.reduceEqDiff, Nat.reduceBEq, Int.reduceToNat, Int.reduceAdd, Int32.reduceOfInt, Int64.reduceOfInt, Int32.reduceToNatClampNeg, Int32.reduceOfNat, Bool.or_self, Bool.or_false, Bool.false_or, Bool.true_or, Bool.or_true, true_and, and_true, false_and, and_false, List.set_cons_zero, List.set_cons_succ, List.take_succ_cons, List.take_zero, List.drop_succ_cons, List.drop_zero, List.reverse_cons, List.reverse_nil, List.nil_append, List.cons_append, List.length_cons, List.length_nil, Option.toList_some, Option.toList_none, not_true_eq_false, not_false_eq_true, forall_const, true_implies, false_implies, nrw, TTS, s148, shM, shO, and01, bI_0, bI_and, isRl, cmpS, toLS, toL_le, toL_lt, i2lS, inM, Int64.reduceLE, Int64.reduceLT, xa_1, xa_2, xa_xa, upd_at, updU, linS, nI_add, nI_s2, clN, inN, inLS, Nat.reduceEqDiff, ↓reduceIte, not_true_eq_false, not_false_eq_true, and_true, true_and, and_false, false_and, and_self, or_true, true_or, or_false, false_or, ↓reduceIte, if_true, if_false, eq_self, h1', h2', h3']
    exact hq _ (REL_thr hR 0)
  have h3' : a ≤ 60 := Int32.not_lt.mp h3
  by_cases h4 : a2 < 1
  · have h4' : ¬ 1 ≤ a2 := Int32.not_le.mpr h4
    refine tri_wp (T := TT [(63, S63)]) (ls := [.ref 0, .int a, .int a2, .null]) (TTc t63 TTn) c62 (by decide +kernel) (rt0 := some .long) rfl rfl (Nat.le_of_ble_eq_true rfl) rfl ?_
    simp only [i62, wp_iinc, wpE0, wpE1, wpE2, wpE3, wpE4, wpE5, wpJ, okS, lt4S, popR, litS, Int32.reduceLT, Int32.reduceLE, List.getElem?_cons_zero, List.getElem?_cons_succ, Bool.false_eq_true, ↓reduceIte, Nat.reduceMod, Nat.reduceDiv, Nat.reduceAdd, Nat.reduceSub, Nat.reduceMul, Nat.reduceLeDiff, Nat.reduceEqDiff, Nat.reduceBEq, Int.reduceToNat, Int.reduceAdd, Int32.reduceOfInt, Int64.reduceOfInt, Int32.reduceToNatClampNeg, Int32.reduceOfNat, Bool.or_self, Bool.or_false, Bool.false_or, Bool.true_or, Bool.or_true, true_and, and_true, false_and, and_false, List.set_cons_zero, List.set_cons_succ, List.take_succ_cons, List.take_zero, List.drop_succ_cons, List.drop_zero, List.reverse_cons, List.reverse_nil, List.nil_append, List.cons_append, List.length_cons, List.length_nil, Option.toList_some, Option.toList_none, not_true_eq_false, not_false_eq_true, forall_const, true_implies, false_implies, nrw, TTS, s63, shO, sh7L, and01, bI_0, bI_and, isCl, isRl, cmpS, toLS, toL_le, toL_lt, i2lS, inM, Int64.reduceLE, Int64.reduceLT, xa_1, xa_2, xa_xa, upd_at, updU, Nat.reduceEqDiff, ↓reduceIte, not_true_eq_false, not_false_eq_true, and_true, true_and, and_false, false_and, and_self, or_true, true_or, or_false, false_or, ↓reduceIte, if_true, if_false, eq_self, h1, h2, h3, h4]
    refine h _ _ (fun Q' hq => ?_)
    refine tri_wp (T := TT [(148, S148)]) (ls := [.ref 86, .int a, .int a2, .null, .null]) (TTc t148 TTn) c182 (by decide +kernel) (rt0 := some .long) rfl rfl (Nat.le_of_ble_eq_true rfl) rfl ?_
    simp only [i182, wp_iinc, wpE0, wpE1, wpE2, wpE3, wpE4, wpE5, wpJ, okS, lt4S, popR, litS, Int32.reduceLT, Int32.reduceLE, List.getElem?_cons_zero, List.getElem?_cons_succ, Bool.false_eq_true, ↓reduceIte, Nat.reduceMod, Nat.reduceDiv, Nat.reduceAdd, Nat.reduceSub, Nat.reduceMul, Nat.reduceLeDiff, Nat.reduceEqDiff, Nat.reduceBEq, Int.reduceToNat, Int.reduceAdd, Int32.reduceOfInt, Int64.reduceOfInt, Int32.reduceToNatClampNeg, Int32.reduceOfNat, Bool.or_self, Bool.or_false, Bool.false_or, Bool.true_or, Bool.or_true, true_and, and_true, false_and, and_false, List.set_cons_zero, List.set_cons_succ, List.take_succ_cons, List.take_zero, List.drop_succ_cons, List.drop_zero, List.reverse_cons, List.reverse_nil, List.nil_append, List.cons_append, List.length_cons, List.length_nil, Option.toList_some, Option.toList_none, not_true_eq_false, not_false_eq_true, forall_const, true_implies, false_implies, nrw, TTS, s148, shM, shO, and01, bI_0, bI_and, isRl, cmpS, toLS, toL_le, toL_lt, i2lS, inM, Int64.reduceLE, Int64.reduceLT, xa_1, xa_2, xa_xa, upd_at, updU, linS, nI_add, nI_s2, clN, inN, inLS, Nat.reduceEqDiff, ↓reduceIte, not_true_eq_false, not_false_eq_true, and_true, true_and, and_false, false_and, and_self, or_true, true_or, or_false, false_or, ↓reduceIte, if_true, if_false, eq_self, h1', h2', h3', h4']
    exact hq _ (REL_thr hR 0)
  have h4' : 1 ≤ a2 := Int32.not_lt.mp h4
  by_cases h5 : a2 ≤ 999999
  · refine t62 [.ref 0, .int a, .int a2] m Q ⟨rfl, h1, ⟨h2, h3⟩, ⟨h4, h5⟩, n12 hR, n6 hR, h _ _ (fun Q' hq => ?_)⟩
    have ha : a = nI (ix a) := by
      have e0 : ¬ a < 0 := fun q => h2 (by rw [Int32.lt_iff_toInt_lt] at q ⊢; show a.toInt < 1; have q : a.toInt < 0 := q; omega)
      exact (ix_of e0).1
    have hxo : xOK a2.toInt64 := by
      rw [Int32.le_iff_toInt_le] at h4' h5
      have h4' : 1 ≤ a2.toInt := h4'
      have h5 : a2.toInt ≤ 999999 := h5
      unfold xOK
      rw [Int32.toInt_toInt64]
      omega
    refine t182g (kk m 7) (g6 m 7) [.ref 86, .int a, .int a2] (goM m a2 (ix a)) Q' ⟨rfl, h1', ⟨h2', h3'⟩, ⟨h4', h5⟩, hR.club.1, hR.club.2.1, hR.club.2.2.2.1, hR.club.2.2.2.2, fun F f1 f2 => ?_⟩
    have f3 : F 48 = m.1 7 3 + a := f2.trans (by rw [show (goM m a2 (ix a)).1 92 48 = m.1 92 48 from rfl, hR.club.2.2.1])
    rw [← f3] at hq
    have f4 : F 48 = m.1 7 3 + nI (ix a) := by rw [← ha]; exact f3
    refine hq _ ?_
    exact REL.mk (by exact hR.rows) (by exact hR.tape) (by exact ⟨hR.club.1, f1, f4, hR.club.2.2.2.1, (vx_days (p := (g6 m 7, a2.toInt64)) (s := 0) hR.club.2.2.2.1 hR.club.2.2.2.2 hxo (ix a)).1⟩) (by exact hR.there) (by exact hR.im0) (by exact hR.im1) (by exact hR.kept0) (by exact hR.kept1) (by exact hR.fault) (by exact hR.status) (by exact hR.trace) (by exact hR.still)
  refine tri_wp (T := TT [(63, S63)]) (ls := [.ref 0, .int a, .int a2, .null]) (TTc t63 TTn) c62 (by decide +kernel) (rt0 := some .long) rfl rfl (Nat.le_of_ble_eq_true rfl) rfl ?_
  simp only [i62, wp_iinc, wpE0, wpE1, wpE2, wpE3, wpE4, wpE5, wpJ, okS, lt4S, popR, litS, Int32.reduceLT, Int32.reduceLE, List.getElem?_cons_zero, List.getElem?_cons_succ, Bool.false_eq_true, ↓reduceIte, Nat.reduceMod, Nat.reduceDiv, Nat.reduceAdd, Nat.reduceSub, Nat.reduceMul, Nat.reduceLeDiff, Nat.reduceEqDiff, Nat.reduceBEq, Int.reduceToNat, Int.reduceAdd, Int32.reduceOfInt, Int64.reduceOfInt, Int32.reduceToNatClampNeg, Int32.reduceOfNat, Bool.or_self, Bool.or_false, Bool.false_or, Bool.true_or, Bool.or_true, true_and, and_true, false_and, and_false, List.set_cons_zero, List.set_cons_succ, List.take_succ_cons, List.take_zero, List.drop_succ_cons, List.drop_zero, List.reverse_cons, List.reverse_nil, List.nil_append, List.cons_append, List.length_cons, List.length_nil, Option.toList_some, Option.toList_none, not_true_eq_false, not_false_eq_true, forall_const, true_implies, false_implies, nrw, TTS, s63, shO, sh7L, and01, bI_0, bI_and, isCl, isRl, cmpS, toLS, toL_le, toL_lt, i2lS, inM, Int64.reduceLE, Int64.reduceLT, xa_1, xa_2, xa_xa, upd_at, updU, Nat.reduceEqDiff, ↓reduceIte, not_true_eq_false, not_false_eq_true, and_true, true_and, and_false, false_and, and_self, or_true, true_or, or_false, false_or, ↓reduceIte, if_true, if_false, eq_self, h1, h2, h3, h4, h5]
  refine h _ _ (fun Q' hq => ?_)
  refine tri_wp (T := TT [(148, S148)]) (ls := [.ref 86, .int a, .int a2, .null, .null]) (TTc t148 TTn) c182 (by decide +kernel) (rt0 := some .long) rfl rfl (Nat.le_of_ble_eq_true rfl) rfl ?_
  simp only [i182, wp_iinc, wpE0, wpE1, wpE2, wpE3, wpE4, wpE5, wpJ, okS, lt4S, popR, litS, Int32.reduceLT, Int32.reduceLE, List.getElem?_cons_zero, List.getElem?_cons_succ, Bool.false_eq_true, ↓reduceIte, Nat.reduceMod, Nat.reduceDiv, Nat.reduceAdd, Nat.reduceSub, Nat.reduceMul, Nat.reduceLeDiff, Nat.reduceEqDiff, Nat.reduceBEq, Int.reduceToNat, Int.reduceAdd, Int32.reduceOfInt, Int64.reduceOfInt, Int32.reduceToNatClampNeg, Int32.reduceOfNat, Bool.or_self, Bool.or_false, Bool.false_or, Bool.true_or, Bool.or_true, true_and, and_true, false_and, and_false, List.set_cons_zero, List.set_cons_succ, List.take_succ_cons, List.take_zero, List.drop_succ_cons, List.drop_zero, List.reverse_cons, List.reverse_nil, List.nil_append, List.cons_append, List.length_cons, List.length_nil, Option.toList_some, Option.toList_none, not_true_eq_false, not_false_eq_true, forall_const, true_implies, false_implies, nrw, TTS, s148, shM, shO, and01, bI_0, bI_and, isRl, cmpS, toLS, toL_le, toL_lt, i2lS, inM, Int64.reduceLE, Int64.reduceLT, xa_1, xa_2, xa_xa, upd_at, updU, linS, nI_add, nI_s2, clN, inN, inLS, Nat.reduceEqDiff, ↓reduceIte, not_true_eq_false, not_false_eq_true, and_true, true_and, and_false, false_and, and_self, or_true, true_or, or_false, false_or, ↓reduceIte, if_true, if_false, eq_self, h1', h2', h3', h4', h5]
  exact hq _ (REL_thr hR 0)
end
section
theorem xa_ne {m : xM} {k q : Nat} {f : Nat → Int32} (h : q ≠ k) : (xa m k f).1 q = m.1 q := if_neg h
theorem cpy_in {f g : Nat → Int32} {s d n i : Nat} (h1 : d ≤ i) (h2 : i < d + n) : va_cpy f g s d n i = f (s + (i - d)) := if_pos ⟨h1, h2⟩
theorem cpy_out {f g : Nat → Int32} {s d n i : Nat} (h : i < d ∨ d + n ≤ i) : va_cpy f g s d n i = g i := if_neg (by omega)
theorem cpy_00 {f g : Nat → Int32} {n i : Nat} (h : i < n) : va_cpy f g 0 0 n i = f i := by
  rw [cpy_in (by omega) (by omega)]
  congr 1
  omega
theorem cpy_0 (f g : Nat → Int32) (s d : Nat) : va_cpy f g s d 0 = g := by
  funext i
  exact cpy_out (by omega)
theorem cpy_s (f g : Nat → Int32) (s d i : Nat) : upd (va_cpy f g s d i) (d + i) (f (s + i)) = va_cpy f g s d (i + 1) := by
  funext q
  by_cases e : q = d + i
  · rw [upd_eq e, cpy_in (by omega) (by omega)]
    congr 1
    omega
  · rw [upd_ne e]
    by_cases z : d ≤ q ∧ q < d + i
    · rw [cpy_in z.1 z.2, cpy_in (by omega) (by omega)]
    · rw [cpy_out (by omega), cpy_out (by omega)]
/-- all but a club as it was -/
def frC (c : Nat) (m m' : xM) : Prop := ∀ q : Nat, (q < c ∨ c + 13 < q) → m'.1 q = m.1 q
/-- two clubs alike, as far as their rows go -/
def EKK (k k' : KK) : Prop := (kWa k' = kWa k ∧ kWi k' = kWi k ∧ kMu k' = kMu k ∧ kNb k' = kNb k ∧ kNh k' = kNh k) ∧ (∀ b, b < 6 → kBe k' b = kBe k b ∧ kSa k' b = kSa k b ∧ kAi k' b = kAi k b ∧ kFl k' b = kFl k b) ∧ (∀ h, h < 12 → kBo k' h = kBo k h ∧ kWe k' h = kWe k h ∧ kLa k' h = kLa k h)
def EXX (X X' : X6) : Prop := (∀ b, b < 6 → xHo X' b = xHo X b ∧ xMa X' b = xMa X b ∧ xWa X' b = xWa X b ∧ xSi X' b = xSi X b) ∧ (∀ h, h < 12 → xSp X' h = xSp X h ∧ xGr X' h = xGr X h)
theorem cnt_c {p q : Nat → Prop} [DecidablePred p] [DecidablePred q] : ∀ {n : Nat}, (∀ i, i < n → (p i ↔ q i)) → cnt p n = cnt q n
  | 0, _ => rfl
  | n + 1, h => by
    unfold cnt
    rw [cnt_c (n := n) (fun i hi => h i (by omega))]
    by_cases z : p n
    · rw [if_pos z, if_pos ((h n (by omega)).mp z)]
    · rw [if_neg z, if_neg (fun y => z ((h n (by omega)).mpr y))]
theorem EKK.vk {k k' : KK} (e : EKK k k') (h : VKK k) : VKK k' := by
  obtain ⟨⟨e1, e2, e3, e4, e5⟩, eb, eh⟩ := e
  have h6 := (ix_b (n := 6) (by decide) h.1.2.2.2.1).1
  have h12 := (ix_b (n := 12) (by decide) h.1.2.2.2.2).1
  refine ⟨?_, fun b hb => ?_, fun i hi => ?_, fun b => ?_⟩
  · unfold VK1; rw [e1, e2, e3, e4, e5]; exact h.1
  · rw [e4] at hb
    obtain ⟨x1, x2, x3, x4⟩ := eb b (by omega)
    rw [x1, x2, x3, x4]; exact h.2.1 b hb
  · rw [e5] at hi
    obtain ⟨x1, x2, x3⟩ := eh i (by omega)
    rw [x1, x2, x3, e4]; exact h.2.2.1 i hi
  · rw [e5, cnt_c (q := fun h => kBo k h = b) (fun i hi => by rw [(eh i (by omega)).1])]
    exact h.2.2.2 b
theorem EXX.vx {k k' : KK} {X X' : X6} (e : EKK k k') (x : EXX X X') (hk : VKK k) (h : VXX k X) : VXX k' X' := by
  have h6 := (ix_b (n := 6) (by decide) hk.1.2.2.2.1).1
  have h12 := (ix_b (n := 12) (by decide) hk.1.2.2.2.2).1
  refine ⟨fun b hb => ?_, fun i hi => ?_⟩
  · rw [e.1.2.2.2.1] at hb
    obtain ⟨x1, x2, x3, x4⟩ := x.1 b (by omega)
    rw [x1, x2, x3]; exact h.1 b hb
  · rw [e.1.2.2.2.2] at hi
    obtain ⟨x1, x2⟩ := x.2 i (by omega)
    rw [x1, x2]; exact h.2 i hi
/-- the Model's rows alike, as far as they go -/
theorem RC_e {k k' : KK} {X X' : X6} {t t' : Int32} {K f K' f' : Nat → Int32} (h : RC k X t K f) (e : EKK k k') (x : EXX X X') (ht : t' = t) (hK : ∀ i, i < 65 → K' i = K i) (hf : ∀ i, i < 49 → f' i = f i) : RC k' X' t' K' f' := by
  obtain ⟨h1, h2, h3, h4, h5⟩ := h
  have h6 := (ix_b (n := 6) (by decide) h4.1.2.2.2.1).1
  have h12 := (ix_b (n := 12) (by decide) h4.1.2.2.2.2).1
  obtain ⟨⟨a1, a2, a3, a4, a5⟩, ab, ah⟩ := h1
  have c4 : ix (K 4) ≤ 12 := by rw [← a5]; exact h12
  have c3 : ix (K 3) ≤ 6 := by rw [← a4]; exact h6
  obtain ⟨⟨e1, e2, e3, e4, e5⟩, eb, eh⟩ := e
  refine ⟨⟨⟨?_, ?_, ?_, ?_, ?_⟩, fun b hb => ?_, fun i hi => ?_⟩, ⟨fun b hb => ?_, fun i hi => ?_⟩, ?_, EKK.vk ⟨⟨e1, e2, e3, e4, e5⟩, eb, eh⟩ h4, EXX.vx ⟨⟨e1, e2, e3, e4, e5⟩, eb, eh⟩ x h4 h5⟩
  · rw [e1, a1, hK 0 (by omega)]
  · rw [e2, a2, hK 1 (by omega)]
  · rw [e3, a3, hK 2 (by omega)]
  · rw [e4, a4, hK 3 (by omega)]
  · rw [e5, a5, hK 4 (by omega)]
  · rw [hK 3 (by omega)] at hb
    obtain ⟨y1, y2, y3, y4⟩ := ab b hb
    obtain ⟨z1, z2, z3, z4⟩ := eb b (by omega)
    rw [z1, z2, z3, z4, y1, y2, y3, y4, hK _ (by omega), hK _ (by omega), hK _ (by omega), hK _ (by omega)]
    exact ⟨rfl, rfl, rfl, rfl⟩
  · rw [hK 4 (by omega)] at hi
    obtain ⟨y1, y2, y3⟩ := ah i hi
    obtain ⟨z1, z2, z3⟩ := eh i (by omega)
    rw [z1, z2, z3, y1, y2, y3, hK _ (by omega), hK _ (by omega), hK _ (by omega)]
    exact ⟨rfl, rfl, rfl⟩
  · obtain ⟨y1, y2, y3, y4⟩ := h2.1 b hb
    obtain ⟨z1, z2, z3, z4⟩ := x.1 b hb
    rw [z1, z2, z3, z4, y1, y2, y3, y4, hf _ (by omega), hf _ (by omega), hf _ (by omega), hf _ (by omega)]
    exact ⟨rfl, rfl, rfl, rfl⟩
  · rw [hK 4 (by omega)] at hi
    obtain ⟨y1, y2⟩ := h2.2 i hi
    obtain ⟨z1, z2⟩ := x.2 i (by omega)
    rw [z1, z2, y1, y2, hf _ (by omega), hf _ (by omega)]
    exact ⟨rfl, rfl⟩
  · rw [ht, hf 48 (by omega)]; exact h3

def S52 (as : List Value) (m : xM) (Q : xQt) : Prop := match as with
  | [.ref c, .ref d] => ((c = 35 ∧ d = 7) ∨ (c = 49 ∧ d = 7) ∨ (c = 7 ∧ d = 35) ∨ (c = 7 ∧ d = 49) ∨ (c = 7 ∧ d = 21) ∨ (c = 65 ∧ d = 7)) ∧ (m.1 d 2 = 0 ∨ m.1 d 2 = 1) ∧ (∀ m' : xM, frC c m m' → m'.2 = m.2 → EKK (kk m d) (kk m' c) → EXX (g6 m d) (g6 m' c) → m'.1 c 3 = m.1 d 3 → Q none m')
  | _ => False
theorem s52 (c d : Nat) (m : xM) (Q : xQt) : S52 [.ref c, .ref d] m Q = (((c = 35 ∧ d = 7) ∨ (c = 49 ∧ d = 7) ∨ (c = 7 ∧ d = 35) ∨ (c = 7 ∧ d = 49) ∨ (c = 7 ∧ d = 21) ∨ (c = 65 ∧ d = 7)) ∧ (m.1 d 2 = 0 ∨ m.1 d 2 = 1) ∧ (∀ m' : xM, frC c m m' → m'.2 = m.2 → EKK (kk m d) (kk m' c) → EXX (g6 m d) (g6 m' c) → m'.1 c 3 = m.1 d 3 → Q none m')) := rfl
set_option maxRecDepth 30000 in
theorem t52 {G : xG} : ∀ as m Q, S52 as m Q → Tri G 52 as m Q := by
  intro as m Q h
  match as, h with
  | [.ref c, .ref d], h =>
    obtain ⟨hcd, hm, h⟩ := h
    rcases hcd with ⟨rfl, rfl⟩ | ⟨rfl, rfl⟩ | ⟨rfl, rfl⟩ | ⟨rfl, rfl⟩ | ⟨rfl, rfl⟩ | ⟨rfl, rfl⟩
    · refine tri_wp (T := TT []) (ls := [.ref 35, .ref 7]) TTn c52 (by decide +kernel) (rt0 := none) rfl rfl (Nat.le_of_ble_eq_true rfl) rfl ?_
      simp only [i52, wp_iinc, wpE0, wpE1, wpE2, wpE3, wpE4, wpE5, wpJ, okS, lt4S, popR, litS, Int32.reduceLT, Int32.reduceLE, List.getElem?_cons_zero, List.getElem?_cons_succ, Bool.false_eq_true, ↓reduceIte, Nat.reduceMod, Nat.reduceDiv, Nat.reduceAdd, Nat.reduceSub, Nat.reduceMul, Nat.reduceLeDiff, Nat.reduceEqDiff, Nat.reduceBEq, Int.reduceToNat, Int.reduceAdd, Int32.reduceOfInt, Int64.reduceOfInt, Int32.reduceToNatClampNeg, Int32.reduceOfNat, Bool.or_self, Bool.or_false, Bool.false_or, Bool.true_or, Bool.or_true, true_and, and_true, false_and, and_false, List.set_cons_zero, List.set_cons_succ, List.take_succ_cons, List.take_zero, List.drop_succ_cons, List.drop_zero, List.reverse_cons, List.reverse_nil, List.nil_append, List.cons_append, List.length_cons, List.length_nil, Option.toList_some, Option.toList_none, not_true_eq_false, not_false_eq_true, forall_const, true_implies, false_implies, nrw, TTS, sh7L, sh21L, sh35L, sh49L, sh65L, xa_1, xa_2, xa_xa, upd_at, hm, Nat.reduceEqDiff, ↓reduceIte, Nat.reduceAdd, not_true_eq_false, not_false_eq_true, and_true, true_and, and_false, false_and, and_self, or_true, true_or, or_false, false_or, ↓reduceIte, if_true, if_false, eq_self]
      refine h _ (fun q hq => ?_) rfl ⟨⟨rfl, rfl, rfl, rfl, rfl⟩, fun b hb => ⟨cpy_00 hb, cpy_00 hb, cpy_00 hb, cpy_00 hb⟩, fun i hi => ⟨cpy_00 hi, cpy_00 hi, cpy_00 hi⟩⟩ ⟨fun b hb => ⟨cpy_00 hb, cpy_00 hb, cpy_00 hb, cpy_00 hb⟩, fun i hi => ⟨cpy_00 hi, cpy_00 hi⟩⟩ rfl
      exact (xa_ne (show q ≠ 48 by omega)).trans <| (xa_ne (show q ≠ 47 by omega)).trans <| (xa_ne (show q ≠ 46 by omega)).trans <| (xa_ne (show q ≠ 45 by omega)).trans <| (xa_ne (show q ≠ 44 by omega)).trans <| (xa_ne (show q ≠ 43 by omega)).trans <| (xa_ne (show q ≠ 42 by omega)).trans <| (xa_ne (show q ≠ 41 by omega)).trans <| (xa_ne (show q ≠ 40 by omega)).trans <| (xa_ne (show q ≠ 39 by omega)).trans <| (xa_ne (show q ≠ 38 by omega)).trans <| (xa_ne (show q ≠ 37 by omega)).trans <| (xa_ne (show q ≠ 36 by omega)).trans <| (xa_ne (show q ≠ 35 by omega))
    · refine tri_wp (T := TT []) (ls := [.ref 49, .ref 7]) TTn c52 (by decide +kernel) (rt0 := none) rfl rfl (Nat.le_of_ble_eq_true rfl) rfl ?_
      simp only [i52, wp_iinc, wpE0, wpE1, wpE2, wpE3, wpE4, wpE5, wpJ, okS, lt4S, popR, litS, Int32.reduceLT, Int32.reduceLE, List.getElem?_cons_zero, List.getElem?_cons_succ, Bool.false_eq_true, ↓reduceIte, Nat.reduceMod, Nat.reduceDiv, Nat.reduceAdd, Nat.reduceSub, Nat.reduceMul, Nat.reduceLeDiff, Nat.reduceEqDiff, Nat.reduceBEq, Int.reduceToNat, Int.reduceAdd, Int32.reduceOfInt, Int64.reduceOfInt, Int32.reduceToNatClampNeg, Int32.reduceOfNat, Bool.or_self, Bool.or_false, Bool.false_or, Bool.true_or, Bool.or_true, true_and, and_true, false_and, and_false, List.set_cons_zero, List.set_cons_succ, List.take_succ_cons, List.take_zero, List.drop_succ_cons, List.drop_zero, List.reverse_cons, List.reverse_nil, List.nil_append, List.cons_append, List.length_cons, List.length_nil, Option.toList_some, Option.toList_none, not_true_eq_false, not_false_eq_true, forall_const, true_implies, false_implies, nrw, TTS, sh7L, sh21L, sh35L, sh49L, sh65L, xa_1, xa_2, xa_xa, upd_at, hm, Nat.reduceEqDiff, ↓reduceIte, Nat.reduceAdd, not_true_eq_false, not_false_eq_true, and_true, true_and, and_false, false_and, and_self, or_true, true_or, or_false, false_or, ↓reduceIte, if_true, if_false, eq_self]
      refine h _ (fun q hq => ?_) rfl ⟨⟨rfl, rfl, rfl, rfl, rfl⟩, fun b hb => ⟨cpy_00 hb, cpy_00 hb, cpy_00 hb, cpy_00 hb⟩, fun i hi => ⟨cpy_00 hi, cpy_00 hi, cpy_00 hi⟩⟩ ⟨fun b hb => ⟨cpy_00 hb, cpy_00 hb, cpy_00 hb, cpy_00 hb⟩, fun i hi => ⟨cpy_00 hi, cpy_00 hi⟩⟩ rfl
      exact (xa_ne (show q ≠ 62 by omega)).trans <| (xa_ne (show q ≠ 61 by omega)).trans <| (xa_ne (show q ≠ 60 by omega)).trans <| (xa_ne (show q ≠ 59 by omega)).trans <| (xa_ne (show q ≠ 58 by omega)).trans <| (xa_ne (show q ≠ 57 by omega)).trans <| (xa_ne (show q ≠ 56 by omega)).trans <| (xa_ne (show q ≠ 55 by omega)).trans <| (xa_ne (show q ≠ 54 by omega)).trans <| (xa_ne (show q ≠ 53 by omega)).trans <| (xa_ne (show q ≠ 52 by omega)).trans <| (xa_ne (show q ≠ 51 by omega)).trans <| (xa_ne (show q ≠ 50 by omega)).trans <| (xa_ne (show q ≠ 49 by omega))
    · refine tri_wp (T := TT []) (ls := [.ref 7, .ref 35]) TTn c52 (by decide +kernel) (rt0 := none) rfl rfl (Nat.le_of_ble_eq_true rfl) rfl ?_
      simp only [i52, wp_iinc, wpE0, wpE1, wpE2, wpE3, wpE4, wpE5, wpJ, okS, lt4S, popR, litS, Int32.reduceLT, Int32.reduceLE, List.getElem?_cons_zero, List.getElem?_cons_succ, Bool.false_eq_true, ↓reduceIte, Nat.reduceMod, Nat.reduceDiv, Nat.reduceAdd, Nat.reduceSub, Nat.reduceMul, Nat.reduceLeDiff, Nat.reduceEqDiff, Nat.reduceBEq, Int.reduceToNat, Int.reduceAdd, Int32.reduceOfInt, Int64.reduceOfInt, Int32.reduceToNatClampNeg, Int32.reduceOfNat, Bool.or_self, Bool.or_false, Bool.false_or, Bool.true_or, Bool.or_true, true_and, and_true, false_and, and_false, List.set_cons_zero, List.set_cons_succ, List.take_succ_cons, List.take_zero, List.drop_succ_cons, List.drop_zero, List.reverse_cons, List.reverse_nil, List.nil_append, List.cons_append, List.length_cons, List.length_nil, Option.toList_some, Option.toList_none, not_true_eq_false, not_false_eq_true, forall_const, true_implies, false_implies, nrw, TTS, sh7L, sh21L, sh35L, sh49L, sh65L, xa_1, xa_2, xa_xa, upd_at, hm, Nat.reduceEqDiff, ↓reduceIte, Nat.reduceAdd, not_true_eq_false, not_false_eq_true, and_true, true_and, and_false, false_and, and_self, or_true, true_or, or_false, false_or, ↓reduceIte, if_true, if_false, eq_self]
      refine h _ (fun q hq => ?_) rfl ⟨⟨rfl, rfl, rfl, rfl, rfl⟩, fun b hb => ⟨cpy_00 hb, cpy_00 hb, cpy_00 hb, cpy_00 hb⟩, fun i hi => ⟨cpy_00 hi, cpy_00 hi, cpy_00 hi⟩⟩ ⟨fun b hb => ⟨cpy_00 hb, cpy_00 hb, cpy_00 hb, cpy_00 hb⟩, fun i hi => ⟨cpy_00 hi, cpy_00 hi⟩⟩ rfl
      exact (xa_ne (show q ≠ 20 by omega)).trans <| (xa_ne (show q ≠ 19 by omega)).trans <| (xa_ne (show q ≠ 18 by omega)).trans <| (xa_ne (show q ≠ 17 by omega)).trans <| (xa_ne (show q ≠ 16 by omega)).trans <| (xa_ne (show q ≠ 15 by omega)).trans <| (xa_ne (show q ≠ 14 by omega)).trans <| (xa_ne (show q ≠ 13 by omega)).trans <| (xa_ne (show q ≠ 12 by omega)).trans <| (xa_ne (show q ≠ 11 by omega)).trans <| (xa_ne (show q ≠ 10 by omega)).trans <| (xa_ne (show q ≠ 9 by omega)).trans <| (xa_ne (show q ≠ 8 by omega)).trans <| (xa_ne (show q ≠ 7 by omega))
    · refine tri_wp (T := TT []) (ls := [.ref 7, .ref 49]) TTn c52 (by decide +kernel) (rt0 := none) rfl rfl (Nat.le_of_ble_eq_true rfl) rfl ?_
      simp only [i52, wp_iinc, wpE0, wpE1, wpE2, wpE3, wpE4, wpE5, wpJ, okS, lt4S, popR, litS, Int32.reduceLT, Int32.reduceLE, List.getElem?_cons_zero, List.getElem?_cons_succ, Bool.false_eq_true, ↓reduceIte, Nat.reduceMod, Nat.reduceDiv, Nat.reduceAdd, Nat.reduceSub, Nat.reduceMul, Nat.reduceLeDiff, Nat.reduceEqDiff, Nat.reduceBEq, Int.reduceToNat, Int.reduceAdd, Int32.reduceOfInt, Int64.reduceOfInt, Int32.reduceToNatClampNeg, Int32.reduceOfNat, Bool.or_self, Bool.or_false, Bool.false_or, Bool.true_or, Bool.or_true, true_and, and_true, false_and, and_false, List.set_cons_zero, List.set_cons_succ, List.take_succ_cons, List.take_zero, List.drop_succ_cons, List.drop_zero, List.reverse_cons, List.reverse_nil, List.nil_append, List.cons_append, List.length_cons, List.length_nil, Option.toList_some, Option.toList_none, not_true_eq_false, not_false_eq_true, forall_const, true_implies, false_implies, nrw, TTS, sh7L, sh21L, sh35L, sh49L, sh65L, xa_1, xa_2, xa_xa, upd_at, hm, Nat.reduceEqDiff, ↓reduceIte, Nat.reduceAdd, not_true_eq_false, not_false_eq_true, and_true, true_and, and_false, false_and, and_self, or_true, true_or, or_false, false_or, ↓reduceIte, if_true, if_false, eq_self]
      refine h _ (fun q hq => ?_) rfl ⟨⟨rfl, rfl, rfl, rfl, rfl⟩, fun b hb => ⟨cpy_00 hb, cpy_00 hb, cpy_00 hb, cpy_00 hb⟩, fun i hi => ⟨cpy_00 hi, cpy_00 hi, cpy_00 hi⟩⟩ ⟨fun b hb => ⟨cpy_00 hb, cpy_00 hb, cpy_00 hb, cpy_00 hb⟩, fun i hi => ⟨cpy_00 hi, cpy_00 hi⟩⟩ rfl
      exact (xa_ne (show q ≠ 20 by omega)).trans <| (xa_ne (show q ≠ 19 by omega)).trans <| (xa_ne (show q ≠ 18 by omega)).trans <| (xa_ne (show q ≠ 17 by omega)).trans <| (xa_ne (show q ≠ 16 by omega)).trans <| (xa_ne (show q ≠ 15 by omega)).trans <| (xa_ne (show q ≠ 14 by omega)).trans <| (xa_ne (show q ≠ 13 by omega)).trans <| (xa_ne (show q ≠ 12 by omega)).trans <| (xa_ne (show q ≠ 11 by omega)).trans <| (xa_ne (show q ≠ 10 by omega)).trans <| (xa_ne (show q ≠ 9 by omega)).trans <| (xa_ne (show q ≠ 8 by omega)).trans <| (xa_ne (show q ≠ 7 by omega))
    · refine tri_wp (T := TT []) (ls := [.ref 7, .ref 21]) TTn c52 (by decide +kernel) (rt0 := none) rfl rfl (Nat.le_of_ble_eq_true rfl) rfl ?_
      simp only [i52, wp_iinc, wpE0, wpE1, wpE2, wpE3, wpE4, wpE5, wpJ, okS, lt4S, popR, litS, Int32.reduceLT, Int32.reduceLE, List.getElem?_cons_zero, List.getElem?_cons_succ, Bool.false_eq_true, ↓reduceIte, Nat.reduceMod, Nat.reduceDiv, Nat.reduceAdd, Nat.reduceSub, Nat.reduceMul, Nat.reduceLeDiff, Nat.reduceEqDiff, Nat.reduceBEq, Int.reduceToNat, Int.reduceAdd, Int32.reduceOfInt, Int64.reduceOfInt, Int32.reduceToNatClampNeg, Int32.reduceOfNat, Bool.or_self, Bool.or_false, Bool.false_or, Bool.true_or, Bool.or_true, true_and, and_true, false_and, and_false, List.set_cons_zero, List.set_cons_succ, List.take_succ_cons, List.take_zero, List.drop_succ_cons, List.drop_zero, List.reverse_cons, List.reverse_nil, List.nil_append, List.cons_append, List.length_cons, List.length_nil, Option.toList_some, Option.toList_none, not_true_eq_false, not_false_eq_true, forall_const, true_implies, false_implies, nrw, TTS, sh7L, sh21L, sh35L, sh49L, sh65L, xa_1, xa_2, xa_xa, upd_at, hm, Nat.reduceEqDiff, ↓reduceIte, Nat.reduceAdd, not_true_eq_false, not_false_eq_true, and_true, true_and, and_false, false_and, and_self, or_true, true_or, or_false, false_or, ↓reduceIte, if_true, if_false, eq_self]
      refine h _ (fun q hq => ?_) rfl ⟨⟨rfl, rfl, rfl, rfl, rfl⟩, fun b hb => ⟨cpy_00 hb, cpy_00 hb, cpy_00 hb, cpy_00 hb⟩, fun i hi => ⟨cpy_00 hi, cpy_00 hi, cpy_00 hi⟩⟩ ⟨fun b hb => ⟨cpy_00 hb, cpy_00 hb, cpy_00 hb, cpy_00 hb⟩, fun i hi => ⟨cpy_00 hi, cpy_00 hi⟩⟩ rfl
      exact (xa_ne (show q ≠ 20 by omega)).trans <| (xa_ne (show q ≠ 19 by omega)).trans <| (xa_ne (show q ≠ 18 by omega)).trans <| (xa_ne (show q ≠ 17 by omega)).trans <| (xa_ne (show q ≠ 16 by omega)).trans <| (xa_ne (show q ≠ 15 by omega)).trans <| (xa_ne (show q ≠ 14 by omega)).trans <| (xa_ne (show q ≠ 13 by omega)).trans <| (xa_ne (show q ≠ 12 by omega)).trans <| (xa_ne (show q ≠ 11 by omega)).trans <| (xa_ne (show q ≠ 10 by omega)).trans <| (xa_ne (show q ≠ 9 by omega)).trans <| (xa_ne (show q ≠ 8 by omega)).trans <| (xa_ne (show q ≠ 7 by omega))
    · refine tri_wp (T := TT []) (ls := [.ref 65, .ref 7]) TTn c52 (by decide +kernel) (rt0 := none) rfl rfl (Nat.le_of_ble_eq_true rfl) rfl ?_
      simp only [i52, wp_iinc, wpE0, wpE1, wpE2, wpE3, wpE4, wpE5, wpJ, okS, lt4S, popR, litS, Int32.reduceLT, Int32.reduceLE, List.getElem?_cons_zero, List.getElem?_cons_succ, Bool.false_eq_true, ↓reduceIte, Nat.reduceMod, Nat.reduceDiv, Nat.reduceAdd, Nat.reduceSub, Nat.reduceMul, Nat.reduceLeDiff, Nat.reduceEqDiff, Nat.reduceBEq, Int.reduceToNat, Int.reduceAdd, Int32.reduceOfInt, Int64.reduceOfInt, Int32.reduceToNatClampNeg, Int32.reduceOfNat, Bool.or_self, Bool.or_false, Bool.false_or, Bool.true_or, Bool.or_true, true_and, and_true, false_and, and_false, List.set_cons_zero, List.set_cons_succ, List.take_succ_cons, List.take_zero, List.drop_succ_cons, List.drop_zero, List.reverse_cons, List.reverse_nil, List.nil_append, List.cons_append, List.length_cons, List.length_nil, Option.toList_some, Option.toList_none, not_true_eq_false, not_false_eq_true, forall_const, true_implies, false_implies, nrw, TTS, sh7L, sh21L, sh35L, sh49L, sh65L, xa_1, xa_2, xa_xa, upd_at, hm, Nat.reduceEqDiff, ↓reduceIte, Nat.reduceAdd, not_true_eq_false, not_false_eq_true, and_true, true_and, and_false, false_and, and_self, or_true, true_or, or_false, false_or, ↓reduceIte, if_true, if_false, eq_self]
      refine h _ (fun q hq => ?_) rfl ⟨⟨rfl, rfl, rfl, rfl, rfl⟩, fun b hb => ⟨cpy_00 hb, cpy_00 hb, cpy_00 hb, cpy_00 hb⟩, fun i hi => ⟨cpy_00 hi, cpy_00 hi, cpy_00 hi⟩⟩ ⟨fun b hb => ⟨cpy_00 hb, cpy_00 hb, cpy_00 hb, cpy_00 hb⟩, fun i hi => ⟨cpy_00 hi, cpy_00 hi⟩⟩ rfl
      exact (xa_ne (show q ≠ 78 by omega)).trans <| (xa_ne (show q ≠ 77 by omega)).trans <| (xa_ne (show q ≠ 76 by omega)).trans <| (xa_ne (show q ≠ 75 by omega)).trans <| (xa_ne (show q ≠ 74 by omega)).trans <| (xa_ne (show q ≠ 73 by omega)).trans <| (xa_ne (show q ≠ 72 by omega)).trans <| (xa_ne (show q ≠ 71 by omega)).trans <| (xa_ne (show q ≠ 70 by omega)).trans <| (xa_ne (show q ≠ 69 by omega)).trans <| (xa_ne (show q ≠ 68 by omega)).trans <| (xa_ne (show q ≠ 67 by omega)).trans <| (xa_ne (show q ≠ 66 by omega)).trans <| (xa_ne (show q ≠ 65 by omega))
end
